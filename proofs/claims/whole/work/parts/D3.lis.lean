/-! what orders leave of the memory -/
section LIS
variable {E : En} {h h1 : Hp} {x : Nat} {μ μ' B : Mu}
theorem GM.up {nc ns nl sg j : Nat} {v : Int32} (hg : GM μ nc ns nl sg) (hj : j ≠ 8) : GM (up2 μ 0 j v) nc ns nl sg := by
  have e2 : up2 μ 0 j v 2 = μ 2 := by funext i; exact up2_ne (by omega)
  have e5 : up2 μ 0 j v 5 = μ 5 := by funext i; exact up2_ne (by omega)
  have e6 : up2 μ 0 j v 6 = μ 6 := by funext i; exact up2_ne (by omega)
  have e8 : up2 μ 0 j v 0 8 = μ 0 8 := up2_ne (by omega)
  have eu : uF (up2 μ 0 j v) = uF μ := by unfold uF; rw [e8]
  refine ⟨by rw [e2]; exact hg.1, ⟨by rw [eu, e8]; exact hg.2.1.1, by rw [eu]; exact hg.2.1.2⟩, fun i hi => ?_⟩
  rw [eu] at hi
  have hs := hg.2.2 i hi
  unfold SnK Sn at hs ⊢
  rw [e2, e5, e6]
  exact hs
/-- what stands while orders are run: bounds, all else, how many were done -/
def LI (B μ : Mu) (nc ns nl sg N : Nat) : Prop := GM μ nc ns nl sg ∧ (∀ o j, kqI o j → μ o j = B o j) ∧ ∃ q, q ≤ N ∧ μ 0 53 = nI q
theorem LI.ord {nc ns nl sg N : Nat} (hl : LI B μ nc ns nl sg N) {d : Od} {fo : Option (List Cl)} (hd : ∃ k, k < 4 ∧ d.1 = nI k) : LI B (ordF d fo nc ns μ).2 nc ns nl sg (N + 1) := by
  obtain ⟨hg, hk, q, hq, e⟩ := hl
  have h6 := hg.1.1.2.1
  have h16 := hg.2.1.2
  refine ⟨?_, ?_, ?_⟩
  · have key : ∀ a b, GM (runA d fo nc ns μ a b).2 nc ns nl sg := fun a b => by
      obtain ⟨k, hk4, ek⟩ := hd
      have h1 : GM (actM μ fo nc ns d.1 a b) nc ns nl sg := by rw [ek]; exact hg.act hk4
      unfold runA
      split
      · exact h1
      · exact (h1.up (by decide)).up (by decide)
    unfold ordF
    split
    · split
      · exact key _ _
      · split
        · exact hg
        · split
          · exact hg
          · exact key _ _
    · exact hg
  · have hK : Kq (l := fun _ _ => 0) B μ (fun _ _ => 0) := ⟨hk, fun _ _ => rfl⟩
    exact (hK.ord d fo nc ns h6 h16).1
  · obtain ⟨y, hy, ey⟩ := ord_53 (d := d) (fo := fo) (ns := ns) h6 h16 e
    exact ⟨y, by omega, ey⟩
theorem LI.rep {nc ns nl sg : Nat} {d : Od} {fo : Option (List Cl)} (hd : ∃ k, k < 4 ∧ d.1 = nI k) : ∀ (t N : Nat) (μ : Mu), LI B μ nc ns nl sg N → repF d fo nc ns t μ = some μ' → LI B μ' nc ns nl sg (N + t)
  | 0, N, μ, hl, e => by
    have : μ = μ' := Option.some.inj e
    rw [← this]; exact hl
  | t + 1, N, μ, hl, e => by
    unfold repF at e
    split at e
    · cases e
    · have := LI.rep hd t (N + 1) _ (hl.ord (fo := fo) hd) e
      rw [show N + (t + 1) = N + 1 + t by omega]; exact this
theorem LI.lis {nc ns nl sg : Nat} {fo : Option (List Cl)} : ∀ (ds : List Od) (k N : Nat) (μ : Mu), (∀ (q : Nat) (d : Od), ds[q]? = some d → (∃ k, k < 4 ∧ d.1 = nI k) ∧ d.2.1 ≤ 20) → LI B μ nc ns nl sg N → lisF fo nc ns ds k μ = .inr μ' → LI B μ' nc ns nl sg (N + 20 * ds.length)
  | [], k, N, μ, _, hl, e => by
    have : μ = μ' := Sum.inr.inj e
    rw [← this]; exact hl
  | d :: ds, k, N, μ, hd, hl, e => by
    unfold lisF at e
    obtain ⟨h1, h2⟩ := hd 0 d rfl
    cases hr : repF d fo nc ns d.2.1 μ with
    | none => rw [hr] at e; cases e
    | some μ2 =>
      rw [hr] at e
      have l2 := LI.rep h1 d.2.1 N μ hl hr
      obtain ⟨g1, g2, q, g3, g4⟩ := LI.lis ds (k + 1) (N + d.2.1) μ2 (fun q d2 hq => hd (q + 1) d2 hq) l2 e
      exact ⟨g1, g2, q, by rw [List.length_cons]; omega, g4⟩
theorem LwS.ru {S : Nat → Nat → Prop} {nl : Nat} {r r' : Nat → Int32} (hl : LwS E h x (x + 3) r nl) (hl6 : nl ≤ 6) (f : Fr S h h1) (far : ∀ a k, x + 135 < a → ¬ S a k) (hR9 : ∀ i, i < 6 → hR h1 (x + 3 + 9) i = hR h (x + 3 + 9) i) (hh : ∀ j, 50 ≤ j → j < 5450 → r' j = r j) : LwS E h1 x (x + 3) r' nl := by
  refine ⟨fun i hi => ?_, fun i hi t ht => ?_⟩
  · obtain ⟨cls, t, nn, a1, a2, a3, a4⟩ := hl.1 i hi
    exact ⟨cls, t, nn, a1.cg (fun j h1 h2 => hh j (by omega) (by omega)), (hR9 i (by omega)).trans a2, a3, a4.fr f (fun j k hj => far _ _ (by omega))⟩
  · rw [hR9 i hi] at ht
    obtain ⟨a1, a2⟩ := hl.2 i hi t ht
    exact ⟨a1, a2.fr f⟩
theorem ru_q {a k : Nat} (hs : ruS x a k) : scP x a k ∨ cfS (x + 3) a k ∨ psW (x + 40) a k := by
  rcases hs with ((z | z | z) | z | z) | z | (z | z) | z
  · exact Or.inl (ak_sc z)
  · exact Or.inr (Or.inl (Or.inl z))
  · exact Or.inr (Or.inr z)
  · exact Or.inl (Or.inr (Or.inr (Or.inr (Or.inr (Or.inr (Or.inl z))))))
  · exact Or.inl (Or.inr (Or.inr (Or.inr (Or.inr (Or.inl ⟨z.1, by omega⟩)))))
  · exact Or.inl (Or.inr (Or.inr (Or.inr (Or.inl z))))
  · exact Or.inr (Or.inl z)
  · exact Or.inr (Or.inr z)
  · exact Or.inl (Or.inr (Or.inr (Or.inr (Or.inr (Or.inl z)))))
theorem ru_far {a k : Nat} (hs : ruS x a k) : ¬ x + 102 ≤ a := by
  rcases ru_q hs with z | z | z
  · intro w
    rcases z with ⟨z, -⟩ | z | z | z | z | z | z
    · unfold reS at z; omega
    · unfold foS akS at z; omega
    · unfold siS akS at z; omega
    · rcases z with z | z
      · have := cf_far z; omega
      · have := ps_far z; omega
    · omega
    · omega
    · rcases hs with ((s | s | s) | s | s) | s | (s | s) | s
      · unfold akS at s; omega
      · unfold ptW at s; omega
      · have := ps_far s; omega
      · omega
      · omega
      · rcases s with s | s
        · have := cf_far s; omega
        · have := ps_far s; omega
      · have := cf_far s; omega
      · have := ps_far s; omega
      · omega
  · have := cf_far z; omega
  · have := ps_far z; omega
/-- behind a text that was read -/
theorem CR.read (hr : CR E h x μ) (f : Fr (reS x) h h1) (h24 : hI h1 (x + 24) 1 = 0) : CR E h1 x (up2 μ 0 13 0) := by
  obtain ⟨hc, hp, hs, ⟨hi, hd⟩, ⟨-, a4, a5⟩, hco, hb, hw, h20⟩ := hr
  have fa : ∀ {a k : Nat}, reS x a k → ¬ x + 135 < a ∧ ¬ (x + 3 ≤ a ∧ a ≤ x + 23) ∧ ¬ a = x + 25 ∧ ¬ a = x ∧ ¬ (x + 40 ≤ a ∧ a ≤ x + 58) ∧ ¬ a = x + 101 ∧ ¬ a = x + 33 ∧ ¬ (a = x + 30 ∧ k = 0) := fun z => by
    unfold reS at z
    rcases z with z | z | z | z | z | z | z | z | z | z | z <;> omega
  have em : ∀ o j, ¬ (o = 0 ∧ j = 13) → up2 μ 0 13 0 o j = μ o j := fun o j hn => up2_ne hn
  have eo : ∀ o, o ≠ 0 → up2 μ 0 13 0 o = μ o := fun o ho => by funext j; exact em o j (by omega)
  refine ⟨hc.re f, by rw [eo 2 (by omega)]; exact hp.fr f (fun i k hi z => by have := fa z; omega) (fun t nn i k _ ht hi z => by have := fa z; omega), (hs.fr f (fun i k hi z => by have := fa z; omega)).mu (em _ _ (by omega)) (fun i _ => em _ _ (by omega)) (fun j hj => em _ _ (by omega)) (em _ _ (by omega)) (em _ _ (by omega)), ⟨fun i h2 => ((hi i h2).fr f (fun k z => by have := fa z; omega) (fun a k ha z => (fa z).1 ha)).mu h2 (em _ _ (by omega)) (fun j _ => em _ _ (by omega)), fun p e1 => ?_⟩, ⟨⟨0, by omega, by rw [up2_at]; rfl, by rw [h24]; rfl⟩, fun k => by rw [eo 9 (by omega), f.I (fun z => by have := fa z; omega)]; exact a4 k, by rw [eo 9 (by omega)]; exact a5⟩, (hco.fr f (fun k _ _ z => by have := fa z; omega) (fun k z => by have := fa z; omega)).mu ⟨em _ _ (by omega), em _ _ (by omega), em _ _ (by omega), em _ _ (by omega)⟩ (eo 1 (by omega)), (hb.fr f (fun i k hi z => by have := fa z; omega)).mu (em _ _ (by omega)) (eo 33 (by omega)), hw.fr f (fun k z => by have := fa z; omega) (fun z => by have := fa z; omega), (em _ _ (by omega)).trans h20⟩
  rw [f.R (fun z => by have := fa z; omega)] at e1 ⊢
  exact hd p e1
theorem re_kp (f : Fr (reS x) h h1) : Kp x h h1 := f.kp (fun a k z => by
  unfold reS at z
  rcases z with z | z | z | z | z | z | z | z | z | z | z <;> omega)
end LIS
