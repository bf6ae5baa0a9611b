/-! rows of the heap: fields, arrays, what is made; calls, returns -/
/-- a field by its link: own class, pool number, class, field, its type -/
def Fl (own : String) (idx ci k t : Nat) : Prop := ∃ (C : String) (T : u_T) (N : Nat), vwCl[ci]? = some (C, T, N) ∧ (∀ w ∈ u_ws C T N, w ∈ gws) ∧ k < N ∧ Cond.fieldLink own idx (T k).1 (T k).2.1 (T k).2.2.1 ∈ gws ∧ (fty ci)[k]? = some t ∧ ci < 13
/-- one that is written: its type, whether it is final -/
def Fp (own : String) (idx ci k t : Nat) (ty : FieldType) (fin : Bool) : Prop := ∃ (C : String) (T : u_T) (N : Nat) (ty0 : Nat → FieldType), vwCl[ci]? = some (C, T, N) ∧ (∀ w ∈ u_ws C T N, w ∈ gws) ∧ k < N ∧ Cond.fieldLink own idx (T k).1 (T k).2.1 (T k).2.2.1 ∈ gws ∧ (fty ci)[k]? = some t ∧ ci < 13 ∧ (∀ k, k < N → parseFieldDescriptor (T k).2.2.1 = some (ty0 k)) ∧ (∀ a, a < N → ∀ b, b < N → a ≠ b → (T a).2.1 ≠ (T b).2.1) ∧ parseFieldDescriptor (T k).2.2.1 = some ty ∧ (T k).2.2.2 = fin ∧ (fin = true → (T k).1 = own)
section HROWS
variable {E : En} {M : Mi} {R : Room} {Q : Qg} {pc : Nat} {lv lv' : List (Nat × Value)} {st : List Value} {h : Hp} {cl sl : Nat}
theorem r_get {idx ci k t a : Nat} (hf : Fl M.1.cls idx ci k t) (ha : isA E h a ci) (hd : decode M.2.1 pc = .ok (.getfield idx, 3)) (kk : Wp E M R Q (pc + 3) lv (mkV h a t k :: st) h cl sl) : Wp E M R Q pc lv (.ref a :: st) h cl sl := by
  intro p e s m ar bl me c C H lo ls hH hS hl
  obtain ⟨hx, hb, hml, hr, hlk, hnm, hown, hts, hKw, hz⟩ := id C
  obtain ⟨CC, T, N, hc, hin, hk, hlink, ht, hci⟩ := hf
  obtain ⟨q, hq⟩ := hW_at ha.1 ha.2.1
  rw [hE_obj ha.2.2 hci] at hq
  exact va_get hx hb hts hin hown hKw.1 hH.1 q hq hc k hk (hts _ hlink) (fun _ z => z) (by rw [mkF_get h a _ 0 k t ht, Nat.zero_add]) hd (kk p e s m ar bl me c C H lo ls hH hS hl)
theorem r_getI {idx ci k a : Nat} (hf : Fl M.1.cls idx ci k 0) (ha : isA E h a ci) (hd : decode M.2.1 pc = .ok (.getfield idx, 3)) (kk : Wp E M R Q (pc + 3) lv (.int (hI h a k) :: st) h cl sl) : Wp E M R Q pc lv (.ref a :: st) h cl sl := r_get hf ha hd kk
theorem r_getJ {idx ci k a : Nat} (hf : Fl M.1.cls idx ci k 1) (ha : isA E h a ci) (hd : decode M.2.1 pc = .ok (.getfield idx, 3)) (kk : Wp E M R Q (pc + 3) lv (.long (hJ h a k) :: st) h cl sl) : Wp E M R Q pc lv (.ref a :: st) h cl sl := r_get hf ha hd kk
theorem r_getO {idx ci k a : Nat} (hf : Fl M.1.cls idx ci k 2) (ha : isA E h a ci) (hd : decode M.2.1 pc = .ok (.getfield idx, 3)) (kk : Wp E M R Q (pc + 3) lv (va_rf (hR h a k) :: st) h cl sl) : Wp E M R Q pc lv (.ref a :: st) h cl sl := r_get hf ha hd kk
theorem r_getR {idx ci k a b : Nat} (hf : Fl M.1.cls idx ci k 2) (ha : isA E h a ci) (hv : hR h a k = some b) (hd : decode M.2.1 pc = .ok (.getfield idx, 3)) (kk : Wp E M R Q (pc + 3) lv (.ref b :: st) h cl sl) : Wp E M R Q pc lv (.ref a :: st) h cl sl := r_getO hf ha hd (by rw [hv]; exact kk)
theorem hE_put {E : En} {h h' : Hp} {a ci k t : Nat} (ha : isA E h a ci) (hci : ci < 13) (ht : (fty ci)[k]? = some t) (hk : hK h' a = hK h a) (hs : ∀ i t', i ≠ k → mkV h' a t' i = mkV h a t' i ∨ (fty ci)[i]? ≠ some t') : hE (eC E) h' a = .inr (ci, (mkF h a (fty ci) 0).set k (mkV h' a t k)) := by
  rw [hE_obj (hk.trans ha.2.2) hci, mkF_set (h := h) (fty ci) 0 k t ht (fun i t' hi => by
    rcases hs i t' (by omega) with h1 | h1
    · exact Or.inl h1
    · exact Or.inr (Or.inl (by rw [Nat.sub_zero]; exact h1))), Nat.zero_add]
theorem r_putg {idx ci k t a : Nat} {ty : FieldType} {h' : Hp} {fin : Bool} (hf : Fp M.1.cls idx ci k t ty fin) (hini : fin = true → M.1.name = "<init>") (ha : isA E h a ci) (hn : narrow ty (mkV h' a t k) = mkV h' a t k) (hfit : fits ty (mkV h' a t k) = true) (hN : hN h' = hN h) (hk : hK h' a = hK h a) (hs : ∀ i t', i ≠ k → mkV h' a t' i = mkV h a t' i ∨ (fty ci)[i]? ≠ some t') (ho : ∀ b, b ≠ a → hE (eC E) h' b = hE (eC E) h b) (hd : decode M.2.1 pc = .ok (.putfield idx, 3)) (kk : Wp E M R Q (pc + 3) lv st h' cl sl) : Wp E M R Q pc lv (mkV h' a t k :: .ref a :: st) h cl sl := by
  intro p e s m ar bl me c C H lo ls hH hS hl
  obtain ⟨hx, hb, hml, hr, hlk, hnm, hown, hts, hKw, hz⟩ := id C
  obtain ⟨CC, T, N, ty0, hc, hin, hkN, hlink, ht, hci, hty, hnms, hpd, hfin, hdecl⟩ := hf
  obtain ⟨q, hq⟩ := hW_at ha.1 ha.2.1
  have hq0 := hq
  rw [hE_obj ha.2.2 hci] at hq
  have hap := va_apart (own := M.1.cls) hts hin ty0 hty hnms hKw.1 hc
  obtain ⟨r, h1, cell, q1, q2, q3, q4⟩ := hH.1 q _ hq
  have hrr : r = (CC, T, N) := Option.some.inj (h1.symm.trans hc)
  subst hrr
  obtain ⟨hSl, hfc, kC, hkC, hkind⟩ := hKw.1.1 ci _ hc
  obtain ⟨cf, kf, fi, f, hi, hsl⟩ := hSl k hkN
  have hlay := hts _ (hin _ (u_in_lay hkN))
  have hst := (u_facts hfc hkC (u_lays hts hin hkN) hi).1
  have hlen : k < (mkF h a (fty ci) 0).length := by rw [mkF_len]; exact (List.getElem?_eq_some_iff.mp ht).1
  have fine : ∀ H' : Heap, H'[a]? = some (cell.setSlot f.slot (mkV h' a t k)) → H'.size = H.size → (∀ q, q ≠ a → H'[q]? = H[q]?) → W p E.1 e R s m ar bl me c H' (lo ++ [⟨a, f.slot⟩]) cl sl (Q bl ar s) (F0 m (pc + 3) ls st) := by
    intro H' e1 e2 e3
    rw [hsl] at e1 ⊢
    have hP1 := hH.1.set (hW_D E h) hq (e := .inr (ci, (mkF h a (fty ci) 0).set k (mkV h' a t k))) ⟨_, hc, t_OB.to (V := updV (vp_V (mkF h a (fty ci) 0)) k (mkV h' a t k)) ⟨_, e1, q2, q3, t_set q4 hap hkN _⟩ (fun j _ => vp_updV_set hlen _ j)⟩ e3
    rw [← hE_put ha hci ht hk hs, hW_set ha.1 ha.2.1 hq0 hN ho] at hP1
    exact kk p e s m ar bl me c C H' _ ls ⟨hP1, by rw [e2, hN]; exact hH.2⟩ (hS.put e2 e3 ha.1) hl
  cases hfb : fin with
  | false =>
    rw [hfb] at hfin
    unfold u_lay at hlay
    rw [if_neg (by rw [hfin]; decide)] at hlay
    have h6 := u_store hfc hkC hkind hlay hi hpd hn hfit
    exact W.putK hx hb (f := f) ⟨hown, hts _ hlink, ⟨_, _, _, hi⟩, hst⟩ (by rw [q2]; exact h6) q1 q3 (by rw [hsl]; exact k2_hasslot (q4 k hkN)) rfl rfl hd fine
  | true =>
    rw [hfb] at hfin
    unfold u_lay at hlay
    rw [if_pos hfin] at hlay
    have hcf : m.cls = cf := by
      obtain ⟨_, _, c', _, _, _, -, -, hf', -, -, -, hown2, -⟩ := Cond.laysFinal_spec hlay
      have e1 : c' = cf := by have := hi.symm.trans hf'; simp at this; exact this.1.symm
      rw [hdecl hfb] at hown2
      rw [← e1]; exact Option.some.inj (hown.symm.trans hown2)
    have h6 := u_fits hfc hkC hkind (Or.inr hlay) hi hpd hn hfit
    exact W.putFinK hx hb hown (hts _ hlink) hi hst hcf (hnm.trans (hini hfb)) (by rw [q2]; exact h6) q1 q3 (by rw [hsl]; exact k2_hasslot (q4 k hkN)) rfl rfl hd fine
theorem mkV_wI {h : Hp} {a k i t' ci : Nat} {v : Int32} (hi : i ≠ k) : mkV (wI h a k v) a t' i = mkV h a t' i ∨ (fty ci)[i]? ≠ some t' := by
  refine Or.inl ?_
  unfold mkV
  have e1 : hI (wI h a k v) a i = hI h a i := by show up2 _ _ _ _ _ _ = _; simp [up2, hi]; rfl
  rw [e1]; rfl
theorem mkV_wJ {h : Hp} {a k i t' ci : Nat} {v : Int64} (hi : i ≠ k) : mkV (wJ h a k v) a t' i = mkV h a t' i ∨ (fty ci)[i]? ≠ some t' := by
  refine Or.inl ?_
  unfold mkV
  have e1 : hJ (wJ h a k v) a i = hJ h a i := by show up2 _ _ _ _ _ _ = _; simp [up2, hi]; rfl
  rw [e1]; rfl
theorem mkV_wR {h : Hp} {a k i t' ci : Nat} {v : Option Nat} (hi : i ≠ k) : mkV (wR h a k v) a t' i = mkV h a t' i ∨ (fty ci)[i]? ≠ some t' := by
  refine Or.inl ?_
  unfold mkV
  have e1 : hR (wR h a k v) a i = hR h a i := by show up2 _ _ _ _ _ _ = _; simp [up2, hi]; rfl
  rw [e1]; rfl
theorem r_putI {idx ci k a : Nat} {v : Int32} (hf : Fp M.1.cls idx ci k 0 .int false) (ha : isA E h a ci) (hd : decode M.2.1 pc = .ok (.putfield idx, 3)) (kk : Wp E M R Q (pc + 3) lv st (wI h a k v) cl sl) : Wp E M R Q pc lv (.int v :: .ref a :: st) h cl sl := by
  have e : mkV (wI h a k v) a 0 k = .int v := by show Value.int (up2 _ _ _ _ _ _) = _; rw [up2_at]
  rw [← e]
  exact r_putg (h' := wI h a k v) hf (fun z => by cases z) ha (by rw [e]; rfl) (by rw [e]; rfl) rfl rfl (fun i t' hi => mkV_wI hi) (fun b hb => wI_other _ _ hb) hd kk
theorem r_putZ {idx ci k a : Nat} {v : Int32} (hf : Fp M.1.cls idx ci k 0 .boolean false) (ha : isA E h a ci) (hv : v = 0 ∨ v = 1) (hd : decode M.2.1 pc = .ok (.putfield idx, 3)) (kk : Wp E M R Q (pc + 3) lv st (wI h a k v) cl sl) : Wp E M R Q pc lv (.int v :: .ref a :: st) h cl sl := by
  have e : mkV (wI h a k v) a 0 k = .int v := by show Value.int (up2 _ _ _ _ _ _) = _; rw [up2_at]
  rw [← e]
  exact r_putg (h' := wI h a k v) hf (fun z => by cases z) ha (by rw [e]; rcases hv with rfl | rfl <;> rfl) (by rw [e]; rcases hv with rfl | rfl <;> rfl) rfl rfl (fun i t' hi => mkV_wI hi) (fun b hb => wI_other _ _ hb) hd kk
theorem r_putJ {idx ci k a : Nat} {v : Int64} (hf : Fp M.1.cls idx ci k 1 .long false) (ha : isA E h a ci) (hd : decode M.2.1 pc = .ok (.putfield idx, 3)) (kk : Wp E M R Q (pc + 3) lv st (wJ h a k v) cl sl) : Wp E M R Q pc lv (.long v :: .ref a :: st) h cl sl := by
  have e : mkV (wJ h a k v) a 1 k = .long v := by show Value.long (up2 _ _ _ _ _ _) = _; rw [up2_at]
  rw [← e]
  exact r_putg (h' := wJ h a k v) hf (fun z => by cases z) ha (by rw [e]; rfl) (by rw [e]; rfl) rfl rfl (fun i t' hi => mkV_wJ hi) (fun b hb => wJ_other _ _ hb) hd kk
theorem r_putO {idx ci k a : Nat} {ty : FieldType} {fin : Bool} {v : Option Nat} (hf : Fp M.1.cls idx ci k 2 ty fin) (hty : (∃ n, ty = .object n) ∨ ∃ t, ty = .array t) (hini : fin = true → M.1.name = "<init>") (ha : isA E h a ci) (hd : decode M.2.1 pc = .ok (.putfield idx, 3)) (kk : Wp E M R Q (pc + 3) lv st (wR h a k v) cl sl) : Wp E M R Q pc lv (va_rf v :: .ref a :: st) h cl sl := by
  have e : mkV (wR h a k v) a 2 k = va_rf v := by show va_rf (up2 _ _ _ _ _ _) = _; rw [up2_at]
  rw [← e]
  exact r_putg (h' := wR h a k v) hf hini ha (by rw [e]; rcases hty with ⟨_, rfl⟩ | ⟨_, rfl⟩ <;> cases v <;> rfl) (by rw [e]; rcases hty with ⟨_, rfl⟩ | ⟨_, rfl⟩ <;> cases v <;> rfl) rfl rfl (fun i t' hi => mkV_wR hi) (fun b hb => wR_other _ _ hb) hd kk
theorem r_putR {idx ci k a b : Nat} {ty : FieldType} {fin : Bool} (hf : Fp M.1.cls idx ci k 2 ty fin) (hty : (∃ n, ty = .object n) ∨ ∃ t, ty = .array t) (hini : fin = true → M.1.name = "<init>") (ha : isA E h a ci) (hd : decode M.2.1 pc = .ok (.putfield idx, 3)) (kk : Wp E M R Q (pc + 3) lv st (wR h a k (some b)) cl sl) : Wp E M R Q pc lv (.ref b :: .ref a :: st) h cl sl := r_putO (v := some b) hf hty hini ha hd kk
/-! arrays: an index is nI of a number that is within -/
theorem r_iald {a j len : Nat} {i : Int32} (ha : isR E h a 13 len) (hi : i = nI j) (hj : j < len) (hs : len < 2 ^ 31) (hd : decode M.2.1 pc = .ok (.iaload, 1)) (kk : Wp E M R Q (pc + 1) lv (.int (hI h a j) :: st) h cl sl) : Wp E M R Q pc lv (.int i :: .ref a :: st) h cl sl := by
  intro p e s m ar bl me c C H lo ls hH hS hl
  obtain ⟨hx, hb, -, -, -, -, hown, hts, hKw, hz⟩ := id C
  obtain ⟨q, hq⟩ := hW_at ha.1 ha.2.1
  rw [hE_int ha.2.2.1, ha.2.2.2] at hq
  subst hi
  refine va_iald hx hb hKw.1 hH.1 q 0 hq rfl (vp_in_nI hj hs) hd ?_
  rw [nI_clamp (by omega)]
  exact kk p e s m ar bl me c C H lo ls hH hS hl
theorem r_zald {a j len : Nat} {i : Int32} (ha : isR E h a 15 len) (hi : i = nI j) (hj : j < len) (hs : len < 2 ^ 31) (hd : decode M.2.1 pc = .ok (.baload, 1)) (kk : Wp E M R Q (pc + 1) lv (.int (hI h a j) :: st) h cl sl) : Wp E M R Q pc lv (.int i :: .ref a :: st) h cl sl := by
  intro p e s m ar bl me c C H lo ls hH hS hl
  obtain ⟨hx, hb, -, -, -, -, hown, hts, hKw, hz⟩ := id C
  obtain ⟨q, hq⟩ := hW_at ha.1 ha.2.1
  rw [hE_bool ha.2.2.1, ha.2.2.2] at hq
  subst hi
  refine va_zald hx hb hKw.1 hH.1 q 2 hq rfl (vp_in_nI hj hs) hd ?_
  rw [nI_clamp (by omega)]
  exact kk p e s m ar bl me c C H lo ls hH hS hl
theorem r_lald {a j len : Nat} {i : Int32} (ha : isR E h a 14 len) (hi : i = nI j) (hj : j < len) (hs : len < 2 ^ 31) (hd : decode M.2.1 pc = .ok (.laload, 1)) (kk : Wp E M R Q (pc + 1) lv (.long (hJ h a j) :: st) h cl sl) : Wp E M R Q pc lv (.int i :: .ref a :: st) h cl sl := by
  intro p e s m ar bl me c C H lo ls hH hS hl
  obtain ⟨hx, hb, -, -, -, -, hown, hts, hKw, hz⟩ := id C
  obtain ⟨q, hq⟩ := hW_at ha.1 ha.2.1
  rw [hE_long ha.2.2.1, ha.2.2.2] at hq
  subst hi
  refine va_lald hx hb hKw.1 hH.1 q 1 hq rfl (vp_in_nI hj hs) hd ?_
  rw [nI_clamp (by omega)]
  exact kk p e s m ar bl me c C H lo ls hH hS hl
theorem r_alen {a kd len : Nat} (ha : isR E h a kd len) (hk : 13 ≤ kd ∧ kd < 19) (hd : decode M.2.1 pc = .ok (.arraylength, 1)) (kk : Wp E M R Q (pc + 1) lv (.int (nI len) :: st) h cl sl) : Wp E M R Q pc lv (.ref a :: st) h cl sl := by
  intro p e s m ar bl me c C H lo ls hH hS hl
  obtain ⟨hx, hb, -, -, -, -, hown, hts, hKw, hz⟩ := id C
  obtain ⟨q, hq⟩ := hW_at ha.1 ha.2.1
  have hgo := kk p e s m ar bl me c C H lo ls hH hS hl
  obtain ⟨h1, h2, h3, h4⟩ := ha
  rcases (show kd = 13 ∨ kd = 14 ∨ kd = 15 ∨ kd = 16 ∨ kd = 17 ∨ kd = 18 by omega) with rfl | rfl | rfl | rfl | rfl | rfl
  · rw [hE_int h3, h4] at hq; exact va_alen hx hb hKw.1 hH.1 q 0 hq rfl rfl hd hgo
  · rw [hE_long h3, h4] at hq; exact va_alen hx hb hKw.1 hH.1 q 1 hq rfl rfl hd hgo
  · rw [hE_bool h3, h4] at hq; exact va_alen hx hb hKw.1 hH.1 q 2 hq rfl rfl hd hgo
  · rw [hE_refs h3 (by omega), h4] at hq; exact va_alen hx hb hKw.1 hH.1 q 3 hq rfl rfl hd hgo
  · rw [hE_refs h3 (by omega), h4] at hq; exact va_alen hx hb hKw.1 hH.1 q 4 hq rfl rfl hd hgo
  · rw [hE_refs h3 (by omega), h4] at hq; exact va_alen hx hb hKw.1 hH.1 q 5 hq rfl rfl hd hgo
/-- references out of an array -/
theorem r_aald {a j kd len : Nat} {i : Int32} (ha : isR E h a kd len) (hk : 16 ≤ kd ∧ kd < 19) (hi : i = nI j) (hj : j < len) (hs : len < 2 ^ 31) (hd : decode M.2.1 pc = .ok (.aaload, 1)) (kk : Wp E M R Q (pc + 1) lv (va_rf (hR h a j) :: st) h cl sl) : Wp E M R Q pc lv (.int i :: .ref a :: st) h cl sl := by
  intro p e s m ar bl me c C H lo ls hH hS hl
  obtain ⟨hx, hb, -, -, -, -, hown, hts, hKw, hz⟩ := id C
  obtain ⟨q, hq⟩ := hW_at ha.1 ha.2.1
  have hgo := kk p e s m ar bl me c C H lo ls hH hS hl
  rw [hE_refs ha.2.2.1 hk.1, ha.2.2.2] at hq
  subst hi
  have hin := vp_in_nI hj hs
  have hlt : (nI j).toNatClampNeg < len := by rw [nI_clamp (by omega)]; exact hj
  have go : ∀ (ty : FieldType) (t0 : Nat), (tyl (eC E))[t0]? = some (eC E kd, ty) → ty.isReference = true → W p E.1 e R s m ar bl me c H lo cl sl (Q bl ar s) (F0 m pc ls (.int (nI j) :: .ref a :: st)) := fun ty t0 ht hre => by
    refine W.aald (v := va_rf (hR h a j)) (ty := ty) hx hb (hH.1 q _ hq) ((hKw.1.2 t0 _ ht).1 len (fun j => va_rf (hR h a j))) hre (fun z => by cases z) (by show ¬ (_ ∨ (arrV _ _ _).slots.size ≤ _); rw [arrV_size]; exact hin) (by show (arrV _ _ _).slots[_]? = _; rw [arrV_read _ _ hlt, nI_clamp (by omega)]) rfl rfl hd hgo
  rcases (show kd = 16 ∨ kd = 17 ∨ kd = 18 by omega) with rfl | rfl | rfl
  · exact go _ 3 rfl rfl
  · exact go _ 4 rfl rfl
  · exact go _ 5 rfl rfl
theorem r_aaldR {a j kd len b : Nat} {i : Int32} (ha : isR E h a kd len) (hk : 16 ≤ kd ∧ kd < 19) (hi : i = nI j) (hj : j < len) (hs : len < 2 ^ 31) (hv : hR h a j = some b) (hd : decode M.2.1 pc = .ok (.aaload, 1)) (kk : Wp E M R Q (pc + 1) lv (.ref b :: st) h cl sl) : Wp E M R Q pc lv (.int i :: .ref a :: st) h cl sl := r_aald ha hk hi hj hs hd (by rw [hv]; exact kk)
/-! stores -/
theorem upd_up2 {h : Hp} {a j : Nat} {v : Int32} : hI (wI h a j v) a = upd (hI h a) j v := by
  funext i; show up2 _ _ _ _ _ _ = _; simp [up2, upd]; rfl
theorem hp_stored {h' : Hp} {a : Nat} {H H1 : Heap} (hH : hpOK E h H) (h1 : eZ E ≤ a) (h2 : a < eZ E + hN h) (hn : hN h' = hN h) (ho : ∀ b, b ≠ a → hE (eC E) h' b = hE (eC E) h b) (e1 : va_at (eD E) vwCl (a, hE (eC E) h' a) H1) (z1 : H1.size = H.size) (oq : ∀ q, q ≠ a → H1[q]? = H[q]?) : hpOK E h' H1 := by
  obtain ⟨q, hq⟩ := hW_at h1 h2
  have hP1 := hH.1.set (hW_D E h) hq e1 oq
  rw [hW_set h1 h2 hq hn ho] at hP1
  exact ⟨hP1, by rw [z1, hn]; exact hH.2⟩
theorem hp_pushed {h' : Hp} {H H1 : Heap} (hH : hpOK E h H) (hn : hN h' = hN h + 1) (ho : ∀ b, b ≠ eZ E + hN h → hE (eC E) h' b = hE (eC E) h b) (e1 : va_at (eD E) vwCl (eZ E + hN h, hE (eC E) h' (eZ E + hN h)) H1) (z1 : H1.size = H.size + 1) (oq : ∀ q, q < H.size → H1[q]? = H[q]?) : hpOK E h' H1 := by
  have hP0 : va_P (eD E) vwCl (hW E h) H1 := hH.1.kept (fun k q hk => oq q.1 ((hH.1 k q hk).lt))
  have hP1 : va_P (eD E) vwCl (hW E h ++ [(eZ E + hN h, hE (eC E) h' (eZ E + hN h))]) H1 := hP0.app (fun k q hk => by
    have hz : k < 1 := (List.getElem?_eq_some_iff.mp hk).1
    rw [show k = 0 by omega] at hk
    cases hk
    exact e1)
  rw [hW_push hn ho] at hP1
  exact ⟨hP1, by rw [z1, hH.2, hn]; omega⟩
theorem r_iast {a j len : Nat} {i v : Int32} (ha : isR E h a 13 len) (hi : i = nI j) (hj : j < len) (hs : len < 2 ^ 31) (hd : decode M.2.1 pc = .ok (.iastore, 1)) (kk : Wp E M R Q (pc + 1) lv st (wI h a j v) cl sl) : Wp E M R Q pc lv (.int v :: .int i :: .ref a :: st) h cl sl := by
  intro p e s m ar bl me c C H lo ls hH hS hl
  obtain ⟨hx, hb, -, -, -, -, hown, hts, hKw, hz⟩ := id C
  obtain ⟨q, hq⟩ := hW_at ha.1 ha.2.1
  rw [hE_int ha.2.2.1, ha.2.2.2] at hq
  subst hi
  refine W.iast hx hb (hH.1 q _ hq) ((hKw.1.2 0 _ rfl).1 len (fun j => .int (hI h a j))) (fun z => by cases z) (by show ¬ (_ ∨ (arrV _ _ _).slots.size ≤ _); rw [arrV_size]; exact vp_in_nI hj hs) rfl rfl hd fun H1 e1 z1 oq => ?_
  refine kk p e s m ar bl me c C H1 _ ls (hp_stored hH ha.1 ha.2.1 rfl (fun b hb => wI_other _ _ hb) ?_ z1 oq) (hS.put z1 oq ha.1) hl
  rw [hE_int (h := wI h a j v) ha.2.2.1, upd_up2]
  show H1[a]? = some (vp_cell (eC E 13) (hL h a, .inl (upd (hI h a) j v)))
  rw [ha.2.2.2, vp_cell_i]
  refine e1.trans ?_
  rw [nI_clamp (by omega)]
  show some ((arrV (eC E 13) len (fun j => .int (hI h a j))).setSlot j (.int v)) = _
  rw [arrV_store]
  congr 2
  funext q; by_cases hq : q = j <;> simp [updV, upd, hq]
theorem r_zast {a j len : Nat} {i v : Int32} (ha : isR E h a 15 len) (hi : i = nI j) (hj : j < len) (hs : len < 2 ^ 31) (hv : v = 0 ∨ v = 1) (hd : decode M.2.1 pc = .ok (.bastore, 1)) (kk : Wp E M R Q (pc + 1) lv st (wI h a j v) cl sl) : Wp E M R Q pc lv (.int v :: .int i :: .ref a :: st) h cl sl := by
  intro p e s m ar bl me c C H lo ls hH hS hl
  obtain ⟨hx, hb, -, -, -, -, hown, hts, hKw, hz⟩ := id C
  obtain ⟨q, hq⟩ := hW_at ha.1 ha.2.1
  rw [hE_bool ha.2.2.1, ha.2.2.2] at hq
  subst hi
  refine W.zast hx hb (hH.1 q _ hq) ((hKw.1.2 2 _ rfl).1 len (fun j => .int (hI h a j))) (fun z => by cases z) (by show ¬ (_ ∨ (arrV _ _ _).slots.size ≤ _); rw [arrV_size]; exact vp_in_nI hj hs) rfl rfl hd fun H1 e1 z1 oq => ?_
  refine kk p e s m ar bl me c C H1 _ ls (hp_stored hH ha.1 ha.2.1 rfl (fun b hb => wI_other _ _ hb) ?_ z1 oq) (hS.put z1 oq ha.1) hl
  rw [hE_bool (h := wI h a j v) ha.2.2.1, upd_up2]
  show H1[a]? = some (vp_cell (eC E 15) (hL h a, .inl (upd (hI h a) j v)))
  rw [ha.2.2.2, vp_cell_i]
  refine e1.trans ?_
  rw [nI_clamp (by omega), show narrow .boolean (.int v) = .int v by rcases hv with rfl | rfl <;> rfl]
  show some ((arrV (eC E 15) len (fun j => .int (hI h a j))).setSlot j (.int v)) = _
  rw [arrV_store]
  congr 2
  funext q; by_cases hq : q = j <;> simp [updV, upd, hq]
theorem r_last {a j len : Nat} {i : Int32} {v : Int64} (ha : isR E h a 14 len) (hi : i = nI j) (hj : j < len) (hs : len < 2 ^ 31) (hd : decode M.2.1 pc = .ok (.lastore, 1)) (kk : Wp E M R Q (pc + 1) lv st (wJ h a j v) cl sl) : Wp E M R Q pc lv (.long v :: .int i :: .ref a :: st) h cl sl := by
  intro p e s m ar bl me c C H lo ls hH hS hl
  obtain ⟨hx, hb, -, -, -, -, hown, hts, hKw, hz⟩ := id C
  obtain ⟨q, hq⟩ := hW_at ha.1 ha.2.1
  rw [hE_long ha.2.2.1, ha.2.2.2] at hq
  subst hi
  refine W.last hx hb (hH.1 q _ hq) ((hKw.1.2 1 _ rfl).1 len (fun j => .long (hJ h a j))) (fun z => by cases z) (by show ¬ (_ ∨ (arrV _ _ _).slots.size ≤ _); rw [arrV_size]; exact vp_in_nI hj hs) rfl rfl hd fun H1 e1 z1 oq => ?_
  refine kk p e s m ar bl me c C H1 _ ls (hp_stored hH ha.1 ha.2.1 rfl (fun b hb => wJ_other _ _ hb) ?_ z1 oq) (hS.put z1 oq ha.1) hl
  rw [hE_long (h := wJ h a j v) ha.2.2.1]
  show H1[a]? = some (vp_cell (eC E 14) (hL h a, .inr (.inl (up2 (hJ h) a j v a))))
  rw [ha.2.2.2, vp_cell_l, up2_same]
  refine e1.trans ?_
  rw [nI_clamp (by omega)]
  show some ((arrV (eC E 14) len (fun j => .long (hJ h a j))).setSlot j (.long v)) = _
  rw [arrV_store]
  congr 2
  funext q; by_cases hq : q = j <;> simp [updV, va_up, hq]
/-- a reference into an array of references of that class (kind 16: class 5; kind 17: class 10) -/
theorem r_aast {a b j len kd ci : Nat} {i : Int32} (ha : isR E h a kd len) (hk : (kd = 16 ∧ ci = 5) ∨ (kd = 17 ∧ ci = 10)) (hb0 : isA E h b ci) (hi : i = nI j) (hj : j < len) (hs : len < 2 ^ 31) (hd : decode M.2.1 pc = .ok (.aastore, 1)) (kk : Wp E M R Q (pc + 1) lv st (wR h a j (some b)) cl sl) : Wp E M R Q pc lv (.ref b :: .int i :: .ref a :: st) h cl sl := by
  intro p e s m ar bl me c C H lo ls hH hS hl
  obtain ⟨hx, hb, -, -, -, -, hown, hts, hKw, hz⟩ := id C
  have hkd : 16 ≤ kd := by omega
  obtain ⟨q, hq⟩ := hW_at ha.1 ha.2.1
  rw [hE_refs ha.2.2.1 hkd, ha.2.2.2] at hq
  obtain ⟨qb, hqb⟩ := hW_at hb0.1 hb0.2.1
  rw [hE_obj hb0.2.2 (by omega)] at hqb
  subst hi
  have go : ∀ (t0 : Nat) (r : vw_C), vwCl[ci]? = some r → (tyl (eC E))[t0]? = some (eC E kd, .object r.1) → W p E.1 e R s m ar bl me c H lo cl sl (Q bl ar s) (F0 m pc ls (.ref b :: .int (nI j) :: .ref a :: st)) := by
    intro t0 r hc ht
    obtain ⟨r', hr', cellV, g1, g2, g3, -⟩ := hH.1 qb _ hqb
    have hcls := (hKw.1.1 ci r hc).2
    obtain ⟨kA, comp, k1, k2, k3, -⟩ := (hKw.1.2 t0 _ ht).2
    have hcomp : comp = (eD E).1 ci := Option.some.inj (k3.symm.trans hcls.1)
    subst hcomp
    obtain ⟨kC, hkC, -⟩ := hcls.2
    have hlt : (nI j).toNatClampNeg < len := by rw [nI_clamp (by omega)]; exact hj
    refine W.aast hx hb (hH.1 q _ hq) (fun q h => by cases h) (fun h => by cases h) k1 k2 rfl hkC ⟨nI_pos (by omega), by show _ < (arrV _ _ _).slots.size; rw [arrV_size]; exact hlt⟩ g1 (fun q h => by rw [g3] at h; cases h) (by rw [g2]; exact hkC) (by rw [g2]; exact va_assign hcls) rfl rfl hd fun H1 e1 z1 oq => ?_
    refine kk p e s m ar bl me c C H1 _ ls (hp_stored hH ha.1 ha.2.1 rfl (fun b hb => wR_other _ _ hb) ?_ z1 oq) (hS.put z1 oq ha.1) hl
    rw [hE_refs (h := wR h a j (some b)) ha.2.2.1 hkd]
    show H1[a]? = some (vp_cell (eC E kd) (hL h a, .inr (.inr (.inr (.inr (up2 (hR h) a j (some b) a))))))
    rw [ha.2.2.2, vp_cell_q, up2_same]
    refine e1.trans ?_
    rw [nI_clamp (by omega)]
    show some ((arrV (eC E kd) len (fun j => va_rf (hR h a j))).setSlot j (.ref b)) = _
    rw [arrV_store]
    congr 2
    funext q; by_cases hq : q = j <;> simp [updV, va_up, hq, va_rf]
  rcases hk with ⟨rfl, rfl⟩ | ⟨rfl, rfl⟩
  · exact go 3 _ rfl rfl
  · exact go 4 _ rfl rfl
theorem r_aastN {a j len kd : Nat} {i : Int32} (ha : isR E h a kd len) (hk : kd = 16 ∨ kd = 17) (hi : i = nI j) (hj : j < len) (hs : len < 2 ^ 31) (hd : decode M.2.1 pc = .ok (.aastore, 1)) (kk : Wp E M R Q (pc + 1) lv st (wR h a j none) cl sl) : Wp E M R Q pc lv (.null :: .int i :: .ref a :: st) h cl sl := by
  intro p e s m ar bl me c C H lo ls hH hS hl
  obtain ⟨hx, hb, -, -, -, -, hown, hts, hKw, hz⟩ := id C
  have hkd : 16 ≤ kd := by omega
  obtain ⟨q, hq⟩ := hW_at ha.1 ha.2.1
  rw [hE_refs ha.2.2.1 hkd, ha.2.2.2] at hq
  subst hi
  have go : ∀ (t0 : Nat) (cn : String), (tyl (eC E))[t0]? = some (eC E kd, .object cn) → W p E.1 e R s m ar bl me c H lo cl sl (Q bl ar s) (F0 m pc ls (.null :: .int (nI j) :: .ref a :: st)) := by
    intro t0 cn ht
    refine va_WaastN (C := cn) hx hb (hH.1 q _ hq) ((hKw.1.2 t0 _ ht).1 len (fun j => va_rf (hR h a j))) (fun h => by cases h) (by show ¬ (_ ∨ (arrV _ _ _).slots.size ≤ _); rw [arrV_size]; exact vp_in_nI hj hs) rfl rfl hd fun H1 e1 z1 oq => ?_
    refine kk p e s m ar bl me c C H1 _ ls (hp_stored hH ha.1 ha.2.1 rfl (fun b hb => wR_other _ _ hb) ?_ z1 oq) (hS.put z1 oq ha.1) hl
    rw [hE_refs (h := wR h a j none) ha.2.2.1 hkd]
    show H1[a]? = some (vp_cell (eC E kd) (hL h a, .inr (.inr (.inr (.inr (up2 (hR h) a j none a))))))
    rw [ha.2.2.2, vp_cell_q, up2_same]
    refine e1.trans ?_
    rw [nI_clamp (by omega)]
    show some ((arrV (eC E kd) len (fun j => va_rf (hR h a j))).setSlot j .null) = _
    rw [arrV_store]
    congr 2
    funext q; by_cases hq : q = j <;> simp [updV, va_up, hq, va_rf]
  rcases hk with rfl | rfl
  · exact go 3 _ rfl
  · exact go 4 _ rfl
/-! what is made -/
def Nl (own : String) (idx ci N : Nat) : Prop := ∃ (C : String) (T : u_T) (ty : Nat → FieldType), vwCl[ci]? = some (C, T, N) ∧ (∀ w ∈ u_ws C T N, w ∈ gws) ∧ (∀ k, k < N → parseFieldDescriptor (T k).2.2.1 = some (ty k)) ∧ Cond.classLink own idx C ∈ gws ∧ Cond.instantiable C N ∈ gws ∧ Cond.initialized C ∈ gws ∧ ci < 13 ∧ ∀ k, k < N → defaultValue (ty k) = match (fty ci)[k]? with | some 0 => .int 0 | some 1 => .long 0 | _ => .null
theorem hNew_V {h : Hp} {a kd len t k : Nat} : mkV (hNew h a kd len) a t k = match (some t : Option Nat) with | some 0 => .int 0 | some 1 => .long 0 | _ => .null := by
  match t with
  | 0 => show Value.int (va_up h.2.1 a (fun _ => 0) a k) = _; rw [va_up_self]; rfl
  | 1 => show Value.long (va_up h.2.2.1 a (fun _ => 0) a k) = _; rw [va_up_self]; rfl
  | t + 2 => show va_rf (va_up h.2.2.2 a (fun _ => none) a k) = _; rw [va_up_self]; rfl
theorem r_new {idx ci N : Nat} (hf : Nl M.1.cls idx ci N) (hc1 : cl + 1 ≤ R.cells) (hs1 : sl + N ≤ R.slots) (hd : decode M.2.1 pc = .ok (.new idx, 3)) (kk : Wp E M R Q (pc + 3) lv (.ref (eZ E + hN h) :: st) (hNew h (eZ E + hN h) ci 0) (cl + 1) (sl + N)) : Wp E M R Q pc lv st h cl sl := by
  intro p e s m ar bl me c C H lo ls hH hS hl
  obtain ⟨hx, hb, -, -, -, -, hown, hts, hKw, hz⟩ := id C
  obtain ⟨CC, T, ty, hc, hin, hty, hcl, hins, hini, hci, hdef⟩ := hf
  have hKn := hKw.1.1 ci _ hc
  refine W.newcK hx hb hown (hts _ hcl) (hts _ hins) (hts _ hini) rfl hd hc1 hs1 hKn.2.1 hH.2 fun H1 kC hkC e1 z1 o1 => ?_
  have hk0 : hK (hNew h (eZ E + hN h) ci 0) (eZ E + hN h) = ci := by show va_up _ _ _ _ = _; rw [va_up_self]
  refine kk p e s m ar bl me c C H1 lo ls (hp_pushed hH rfl (fun b hb => hNew_other _ _ hb) ?_ (by rw [hH.2]; exact z1) (fun q hq => o1 q (by rw [← hH.2]; exact hq))) ⟨by have := hS.1; have := hH.2; omega, fun q g1 g2 => (o1 q (by have := hS.1; have := hH.2; omega)).trans (hS.2.1 q g1 g2), hS.2.2⟩ hl
  rw [hE_obj hk0 hci]
  refine ⟨_, hc, (u_born ty hts hin hKn hkC e1 hty).to (fun j hj => ?_)⟩
  have hj : j < N := hj
  rw [hdef j hj]
  have hft : (fty ci)[j]? = some (ftt (T j).2.2.1) := by
    unfold fty; rw [hc]
    simp [List.getElem?_range hj]
  unfold vp_V
  rw [List.getD_eq_getElem?_getD, mkF_get _ _ _ 0 j _ hft, hft, Nat.zero_add, hNew_V]
  rfl
theorem r_newarr {kd N : Nat} {n : Int32} {atype : ArrayType} (ht : (atype = .int ∧ kd = 13) ∨ (atype = .long ∧ kd = 14) ∨ (atype = .boolean ∧ kd = 15)) (hn : n = nI N) (hNm : N < 1000000) (hc1 : cl + 1 ≤ R.cells) (hs1 : sl + N ≤ R.slots) (hd : decode M.2.1 pc = .ok (.newarray atype, 2)) (kk : Wp E M R Q (pc + 2) lv (.ref (eZ E + hN h) :: st) (hNew h (eZ E + hN h) kd N) (cl + 1) (sl + N)) : Wp E M R Q pc lv (.int n :: st) h cl sl := by
  intro p e s m ar bl me c C H lo ls hH hS hl
  obtain ⟨hx, hb, -, -, -, -, hown, hts, hKw, hz⟩ := id C
  have hk0 : hK (hNew h (eZ E + hN h) kd N) (eZ E + hN h) = kd := by show va_up _ _ _ _ = _; rw [va_up_self]
  have hl0 : hL (hNew h (eZ E + hN h) kd N) (eZ E + hN h) = N := by show va_up _ _ _ _ = _; rw [va_up_self]
  have hi0 : hI (hNew h (eZ E + hN h) kd N) (eZ E + hN h) = fun _ => 0 := by show va_up _ _ _ _ = _; rw [va_up_self]
  have hj0 : hJ (hNew h (eZ E + hN h) kd N) (eZ E + hN h) = fun _ => 0 := by show va_up _ _ _ _ = _; rw [va_up_self]
  subst hn
  have go : ∀ (ty : FieldType) (t0 : Nat), newarray.typeOf atype = ty → Cond.arrayClass ty ∈ gws → (tyl (eC E))[t0]? = some (eC E kd, ty) → (∀ C : String, ty ≠ .object C) → componentBytes ty ≤ 8 → (va_at (eD E) vwCl (eZ E + hN h, hE (eC E) (hNew h (eZ E + hN h) kd N) (eZ E + hN h)) = fun H1 => H1[eZ E + hN h]? = some (arrV (eC E kd) N (fun _ => defaultValue ty))) → W p E.1 e R s m ar bl me c H lo cl sl (Q bl ar s) (F0 m pc ls (.int (nI N) :: st)) := by
    intro ty t0 hty hw ht0 hno hby hat
    subst hty
    refine va_newaK hx hb (hts _ hw) rfl hd rfl (nI_pos (by omega)) (nI_clamp (by omega)) (by have := Nat.mul_le_mul (Nat.le_of_lt hNm) hby; omega) hc1 hs1 hH.2 fun H1 cA e1 z1 o1 hAr hNm => ?_
    have hcA : cA = eC E kd := by
      have h5 := (hKw.1.2 t0 _ ht0).2
      have h6 : s.vm.findClass ("[" ++ (newarray.typeOf atype).toString) = some (eC E kd) := by
        cases atype <;> exact h5
      exact Option.some.inj (hNm.symm.trans h6)
    subst hcA
    refine kk p e s m ar bl me c C H1 lo ls (hp_pushed hH rfl (fun b hb => hNew_other _ _ hb) (by rw [hat]; exact e1) (by rw [hH.2]; exact z1) (fun q hq => o1 q (by rw [← hH.2]; exact hq))) ⟨by have := hS.1; have := hH.2; omega, fun q g1 g2 => (o1 q (by have := hS.1; have := hH.2; omega)).trans (hS.2.1 q g1 g2), hS.2.2⟩ hl
  rcases ht with ⟨rfl, rfl⟩ | ⟨rfl, rfl⟩ | ⟨rfl, rfl⟩
  · refine go .int 0 rfl (gi1 132 (by decide +kernel) rfl) rfl (fun _ z => by cases z) (by decide) ?_
    funext H1
    rw [hE_int hk0, hl0, hi0]; rfl
  · refine go .long 1 rfl (gi1 43 (by decide +kernel) rfl) rfl (fun _ z => by cases z) (by decide) ?_
    funext H1
    rw [hE_long hk0, hl0, hj0]; rfl
  · refine go .boolean 2 rfl (gi6 181 (by decide +kernel) rfl) rfl (fun _ z => by cases z) (by decide) ?_
    funext H1
    rw [hE_bool hk0, hl0, hi0]; rfl
end HROWS
