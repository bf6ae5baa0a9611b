/-! the class's own methods: law() -/
section OWN15
variable {E : En} {h h1 h2 : Hp} {x n : Nat} {μ : Mu} {wl wo wh : Nat → Int64}
theorem CpT.law {t w sz : Nat} {cls : List Cl} (hc : CpT E h h1 t w sz) (hl : LwT E h t 400 cls) (hs : hI h t 6 = nI sz) (h4 : sz ≤ 400) : LwT E h1 w sz cls := by
  obtain ⟨htx, -, hlen, h12, sz2, hsz2, hs2, hcl⟩ := hl
  have e : sz2 = sz := nI_inj (by omega) (by omega) (hs2.symm.trans hs)
  subst e
  obtain ⟨-, -, htw, ⟨c0, c6, c7⟩, k1, k2, k3, k4, k5⟩ := hc
  refine ⟨htw, h4, c0.trans hlen, h12, sz2, Nat.le_refl _, c6.trans hs2, fun q d hq => ?_⟩
  have hq12 : q < 12 := by
    rcases Nat.lt_or_ge q cls.length with z | z
    · omega
    · rw [List.getElem?_eq_none z] at hq; cases hq
  obtain ⟨hd, a0, a1, a2, a3, g1, g2, g3, g4, g5, g6, g7, l1, l2, l3, l4, hsum, hif⟩ := hcl q d hq
  refine ⟨hd, a0, a1, a2, a3, g1, g2, (k1 q hq12).trans g3, (k3 _ (by omega)).trans g4, (k3 _ (by omega)).trans g5, (k3 _ (by omega)).trans g6, (k3 _ (by omega)).trans g7, l1, l2, l3, l4, fun hn => ?_, ?_⟩
  · obtain ⟨lf, w1, w2, w3⟩ := hsum hn
    exact ⟨lf, w1, CSeg_cong (fun k _ q2 => ⟨k4 k (by omega), k5 k (by omega)⟩) w2, w3⟩
  · cases hd2 : d.2.1 with
    | none => rw [hd2] at hif; exact hif
    | some s =>
      rw [hd2] at hif
      obtain ⟨lf, w1, w2, w3⟩ := hif
      exact ⟨lf, w1, CSeg_cong (fun k _ q2 => ⟨k4 k (by omega), k5 k (by omega)⟩) w2, w3⟩
/-- a law more, in both -/
theorem CR.law {nc ns nl sg t nn : Nat} {cls : List Cl} {R : Nat → Int32} (hr : CR E h x μ) (hg : GM μ nc ns nl sg) (h6 : nl < 6) (ht : x + 135 < t) (hl : LwT E h t nn cls) (e3 : R 3 = nI (nl + 1)) (hOK : LawOK R nl cls) (hk : ∀ j, j ≠ 3 → (j < 50 + 900 * nl ∨ 50 + 900 * nl + 900 ≤ j) → R j = μ 2 j) : CR E (wR (wI h (x + 3) 11 (nI (nl + 1))) (x + 3 + 9) nl (some t)) x (setR μ R) := by
  have f : Fr (fun a k => (a = x + 3 ∧ k = 11) ∨ (a = x + 3 + 9 ∧ k = nl)) h (wR (wI h (x + 3) 11 (nI (nl + 1))) (x + 3 + 9) nl (some t)) := (Fr.wI (Or.inl ⟨rfl, rfl⟩)).tr (Fr.wR (Or.inr ⟨rfl, rfl⟩))
  obtain ⟨hv, nc0, ns0, nl0, sg0, hg0, hl0⟩ := hr.2.1
  have enl : nl = nl0 := by
    have e := hg.1.2.1.1
    rw [hg0.2.1.1] at e
    have := hg0.2.1.2
    exact (nI_inj (by omega) (by omega) e).symm
  subst enl
  have kj : ∀ {j : Nat}, j ≠ 3 → j < 50 → R j = μ 2 j := fun h1 h2 => hk _ h1 (by omega)
  have hv1 : PtV (wR (wI h (x + 3) 11 (nI (nl + 1))) (x + 3 + 9) nl (some t)) (x + 3) R := by
    have h1 : PtV (wI h (x + 3) 11 (nI (nl + 1))) (x + 3) (va_up (μ 2) 3 (nI (nl + 1))) := hv.c3 _
    refine PtV.cg (r := va_up (μ 2) 3 (nI (nl + 1))) h1 (fun j hj => ?_)
    by_cases z : j = 3
    · subst z; rw [va_up_self, e3]
    · rw [va_up_ne _ _ z, kj z (by omega)]
  have hgR : RwG R nc ns (nl + 1) sg := ⟨hg.1.1.cgB (fun j h1 _ h3 _ => kj h3 (by omega)), ⟨e3, by omega⟩, by rw [kj (by decide) (by omega)]; exact hg.1.2.2.1, by
    rw [kj (by decide) (by omega)]
    rcases hg.1.2.2.2.1 with z | ⟨q, hq, eq⟩
    · exact Or.inl z
    · exact Or.inr ⟨q, by omega, eq⟩, hg.1.2.2.2.2.cgB (fun j _ _ => kj (by omega) (by omega))⟩
  have far : ∀ t' nn' i k, txS E h t' nn' → x + 135 < t' → i ≤ 5 → ¬ ((t' + i = x + 3 ∧ k = 11) ∨ (t' + i = x + 3 + 9 ∧ k = nl)) := fun t' nn' i k _ h1 h2 => by omega
  have hR9 : ∀ i, hR (wR (wI h (x + 3) 11 (nI (nl + 1))) (x + 3 + 9) nl (some t)) (x + 3 + 9) i = if i = nl then some t else hR h (x + 3 + 9) i := fun i => by
    by_cases z : i = nl
    · subst z; rw [if_pos rfl]; exact up2_at
    · rw [if_neg z]; exact f.R (by omega)
  have hLS : LwS E (wR (wI h (x + 3) 11 (nI (nl + 1))) (x + 3 + 9) nl (some t)) x (x + 3) R (nl + 1) := by
    refine ⟨fun i hi => ?_, fun i hi t' ht' => ?_⟩
    · rw [hR9]
      by_cases z : i = nl
      · subst z
        rw [if_pos rfl]
        exact ⟨cls, t, nn, hOK, rfl, ht, hl.fr f (fun j k hj => far t nn j k hl.1 ht hj)⟩
      · rw [if_neg z]
        obtain ⟨c2, t2, n2, a1, a2, a3, a4⟩ := hl0.1 i (by omega)
        exact ⟨c2, t2, n2, a1.cg (fun j h1 h2 => hk j (by omega) (by omega)), a2, a3, a4.fr f (fun j k hj => far t2 n2 j k a4.1 a3 hj)⟩
    · rw [hR9] at ht'
      by_cases z : i = nl
      · rw [if_pos z] at ht'
        have : t = t' := Option.some.inj ht'
        subst this
        exact ⟨ht, hl.1.1.fr f⟩
      · rw [if_neg z] at ht'
        obtain ⟨a1, a2⟩ := hl0.2 i hi t' ht'
        exact ⟨a1, a2.fr f⟩
  have ps := (hr.2.2.1.fr f (fun i k hi z => by omega)).mu (μ' := setR μ R) (congrFun (setR_ne (by decide)) _) (fun i _ => congrFun (setR_ne (by decide)) _) (fun j _ => congrFun (setR_ne (by decide)) _) (by rw [setR_2]; exact kj (by decide) (by omega)) (by rw [setR_2]; exact kj (by decide) (by omega))
  refine hr.port f (fun a k z => Or.inr (Or.inl ?_)) (by rw [setR_2]; exact ⟨hv1, nc, ns, nl + 1, sg, hgR, hLS⟩) ps (fun o j _ h2 _ _ _ => congrFun (setR_ne h2) j)
  unfold cfS ptW
  omega
end OWN15
