/-! the reference: orders() -/
section ORDERS12
variable {E : En} {h : Hp} {m : Nat} {μ : Mu} {l : La} {n : Nat}
def obI (o j : Nat) : Prop := (o = 1 ∨ o = 2 ∨ o = 3 ∨ o = 4 ∨ o = 6 ∨ o = 9 ∨ o = 33) ∨ (o = 5 ∧ j < 528) ∨ (o = 0 ∧ (j = 1 ∨ j = 8 ∨ j = 11 ∨ j = 13 ∨ j = 18 ∨ j = 20 ∨ j = 55 ∨ j = 59))
theorem Ob.pt {μ' : Mu} {l' : La} : Ob μ l μ' l' ↔ (∀ o j, obI o j → μ' o j = μ o j) ∧ ∀ o, o ∈ [15, 16, 17, 31] → l' o = l o := by
  constructor
  · intro hO
    refine ⟨fun o j hq => ?_, hO.2.2.2⟩
    rcases hq with q | q | q
    · exact congrFun (hO.1 o (by simp only [List.mem_cons, List.not_mem_nil, or_false]; exact q)) j
    · rw [q.1]; exact hO.2.1 j q.2
    · rw [q.1]; exact hO.2.2.1 j (by simp only [List.mem_cons, List.not_mem_nil, or_false]; exact q.2)
  · rintro ⟨h1, h2⟩
    refine ⟨fun o ho => ?_, fun j hj => h1 5 j (Or.inr (Or.inl ⟨rfl, hj⟩)), fun j hj => ?_, h2⟩
    · simp only [List.mem_cons, List.not_mem_nil, or_false] at ho
      funext j; exact h1 o j (Or.inl ho)
    · simp only [List.mem_cons, List.not_mem_nil, or_false] at hj
      exact h1 0 j (Or.inr (Or.inr ⟨rfl, hj⟩))
theorem Ob.up {μ' : Mu} {l' : La} (hO : Ob μ l μ' l') (o j : Nat) (v : Int32) : Ob (up2 μ o j v) l (up2 μ' o j v) l' := by
  rw [Ob.pt] at hO ⊢
  refine ⟨fun a b hq => ?_, hO.2⟩
  by_cases he : a = o ∧ b = j
  · obtain ⟨rfl, rfl⟩ := he; rw [up2_at, up2_at]
  · rw [up2_ne he, up2_ne he]; exact hO.1 a b hq
theorem Ob.row {μ' : Mu} {l' : La} (hO : Ob μ l μ' l') : μ' 2 = μ 2 := hO.1 2 (by decide)
theorem Ob.f8 {μ' : Mu} {l' : La} (hO : Ob μ l μ' l') : μ' 0 8 = μ 0 8 := hO.2.2.1 8 (by decide)
theorem Ob.rem {μ' : Mu} {l' : La} (hO : Ob μ l μ' l') (u : Nat) (s : Int32) : Ob (remM μ u s) l (remM μ' u s) l' := by
  unfold remM
  refine Ob.up (Ob.up ?_ _ _ _) _ _ _
  have hA : Ob (remA μ u) l (remA μ' u) l' := by
    unfold remA
    split
    · refine Ob.up ?_ _ _ _
      rw [Ob.pt] at hO ⊢
      refine ⟨fun a b hq => ?_, hO.2⟩
      unfold shK
      split
      · exact hO.1 6 (b + 1) (by unfold obI; omega)
      · unfold shN
        split
        · exact hO.1 5 (b + 33) (by unfold obI; omega)
        · exact hO.1 a b hq
    · exact hO
  rw [Ob.pt] at hA ⊢
  refine ⟨fun a b hq => ?_, hA.2⟩
  unfold keepN
  split
  · exact hA.1 2 _ (by unfold obI; omega)
  · exact hA.1 a b hq
theorem Ob.cR {μ' : Mu} {l' : La} (hO : Ob μ l μ' l') (r : Nat → Int32) : Ob (setR μ r) l (setR μ' r) l' := by
  rw [Ob.pt] at hO ⊢
  refine ⟨fun a b hq => ?_, hO.2⟩
  unfold setR
  split
  · rfl
  · exact hO.1 a b hq
theorem Ob.act {μ' : Mu} {l' : La} (hS : Ob μ l μ' l') (fo : Option (List Cl)) (nc ns : Nat) (k a b : Int32) : Ob (actM μ fo nc ns k a b) l (actM μ' fo nc ns k a b) l' := by
  have eu : uF μ' = uF μ := by unfold uF; rw [hS.f8]
  unfold actM
  rw [eu, hS.row]
  split
  · unfold signM
    split
    · exact Ob.up (Ob.rem hS _ _) _ _ _
    · exact hS
  · split
    · unfold dieM
      split
      · have hR := Ob.rem hS (uF μ) 1
        unfold dieItM
        rw [hR.row]
        exact Ob.up (Ob.up (Ob.up hR _ _ _) _ _ _) _ _ _
      · exact hS
    · split
      · unfold clipM
        split
        · exact Ob.up (Ob.rem hS _ _) _ _ _
        · exact hS
      · split
        · exact hS
        · exact Ob.cR (Ob.rem hS _ _) _
theorem Ob.tellC {μ' : Mu} {l' : La} (hO : Ob μ l μ' l') (v : Int32) : Ob (tellM μ v) l (tellM μ' v) l' := by
  unfold tellM
  split
  · rw [hO.1 1 (by decide)]; exact Ob.up (Ob.up hO _ _ _) _ _ _
  · exact Ob.up hO _ _ _
/-- equal also in what was done and told last -/
def Oc (μ : Mu) (l : La) (μ' : Mu) (l' : La) : Prop := Ob μ l μ' l' ∧ μ' 0 53 = μ 0 53 ∧ μ' 0 54 = μ 0 54
theorem Oc.ord {μ' : Mu} {l' : La} (hO : Oc μ l μ' l') (d : Od) (fo : Option (List Cl)) (nc ns : Nat) (h6 : nc ≤ 6) (hu : uF μ ≤ 16) : (ordF d fo nc ns μ').1 = (ordF d fo nc ns μ).1 ∧ Oc (ordF d fo nc ns μ).2 l (ordF d fo nc ns μ').2 l' := by
  obtain ⟨hB, h53, h54⟩ := id hO
  have eu : uF μ' = uF μ := by unfold uF; rw [hB.f8]
  have key : ∀ a b, (runA d fo nc ns μ' a b).1 = (runA d fo nc ns μ a b).1 ∧ Oc (runA d fo nc ns μ a b).2 l (runA d fo nc ns μ' a b).2 l' := by
    intro a b
    unfold runA
    rw [hB.row]
    split
    · refine ⟨rfl, Ob.act hB _ _ _ _ _ _, ?_, ?_⟩
      · dsimp only; rw [act_keep (by rw [eu]; exact hu) h6 (by omega), act_keep hu h6 (by omega)]; exact h53
      · dsimp only; rw [act_keep (by rw [eu]; exact hu) h6 (by omega), act_keep hu h6 (by omega)]; exact h54
    · refine ⟨rfl, ?_, ?_, ?_⟩
      · rw [h53, h54]; exact Ob.up (Ob.up (Ob.act hB _ _ _ _ _ _) _ _ _) _ _ _
      · dsimp only
        rw [up2_at, up2_at, h53]
      · dsimp only
        rw [up2_ne (by omega), up2_at, up2_ne (by omega), up2_at, h54]
  unfold ordF
  rw [hB.row, h53, h54]
  split
  · split
    · exact key _ _
    · split
      · exact ⟨rfl, hO⟩
      · split
        · exact ⟨rfl, hO⟩
        · exact key _ _
  · exact ⟨rfl, hO⟩
theorem Sw.oc {μ' : Mu} {l' : La} (hS : Sw μ l μ' l') : Oc μ l μ' l' := ⟨hS.ob, hS.f (by decide) (by decide) (by decide), hS.f (by decide) (by decide) (by decide)⟩
theorem Oc.tr {μ1 μ2 : Mu} {l1 l2 : La} (h1 : Oc μ l μ1 l1) (h2 : Oc μ1 l1 μ2 l2) : Oc μ l μ2 l2 := ⟨h1.1.tr h2.1, h2.2.1.trans h1.2.1, h2.2.2.trans h1.2.2⟩
/-- an order so often; orders one by one -/
def repF (d : Od) (fo : Option (List Cl)) (nc ns : Nat) : Nat → Mu → Option Mu
  | 0, μ => some μ
  | t + 1, μ => if (ordF d fo nc ns μ).1 < 0 then none else repF d fo nc ns t (ordF d fo nc ns μ).2
def lisF (fo : Option (List Cl)) (nc ns : Nat) : List Od → Nat → Mu → Nat ⊕ Mu
  | [], _, μ => .inr μ
  | d :: ds, k, μ => match repF d fo nc ns d.2.1 μ with
    | none => .inl k
    | some μ' => lisF fo nc ns ds (k + 1) μ'
/-- what stands all the while that orders are run -/
def kqI (o j : Nat) : Prop := (o = 1 ∨ o = 3 ∨ o = 4 ∨ o = 7 ∨ o = 8 ∨ o = 9 ∨ o = 11 ∨ o = 12 ∨ o = 32 ∨ o = 33) ∨ (o = 5 ∧ 528 ≤ j) ∨ (o = 6 ∧ 16 ≤ j) ∨ (o = 2 ∧ (j < 5 ∨ 38 ≤ j)) ∨ (o = 0 ∧ (j = 1 ∨ j = 11 ∨ j = 13 ∨ j = 18 ∨ j = 20 ∨ j = 21 ∨ j = 55 ∨ j = 59))
def Kq (B : Mu) (l : La) (ν : Mu) (κ : La) : Prop := (∀ o j, kqI o j → ν o j = B o j) ∧ ∀ o, o ∈ [15, 16, 17, 31] → κ o = l o
theorem Kq.ord {B ν : Mu} {κ : La} (hK : Kq B l ν κ) (d : Od) (fo : Option (List Cl)) (nc ns : Nat) (h6 : nc ≤ 6) (hu : uF ν ≤ 16) : Kq B l (ordF d fo nc ns ν).2 κ := by
  have key : ∀ a b, Kq B l (runA d fo nc ns ν a b).2 κ := by
    intro a b
    refine ⟨fun o j hq => ?_, hK.2⟩
    have e : actM ν fo nc ns d.1 a b o j = B o j := (act_keep hu h6 (by unfold kqI at hq; omega)).trans (hK.1 o j hq)
    unfold runA
    split
    · exact e
    · dsimp only
      rw [up2_ne (by unfold kqI at hq; omega), up2_ne (by unfold kqI at hq; omega)]; exact e
  unfold ordF
  split
  · split
    · exact key _ _
    · split
      · exact hK
      · split
        · exact hK
        · exact key _ _
  · exact hK
theorem Kq.sw {B ν ν' : Mu} {κ κ' : La} (hK : Kq B l ν κ) (hS : Sw ν κ ν' κ') : Kq B l ν' κ' := by
  refine ⟨fun o j hq => (hS.1 o j (fun z => by unfold kqI at hq; unfold swI isScr at z; omega)).trans (hK.1 o j hq), fun o ho => ?_⟩
  rw [← hK.2 o ho]
  exact hS.ob.2.2.2 o ho
theorem JR_ord {d : Od} {fo : Option (List Cl)} {nc ns : Nat} (hJ : JR μ fo nc ns) : JR (ordF d fo nc ns μ).2 fo nc ns := by
  have key : ∀ a b, JR (runA d fo nc ns μ a b).2 fo nc ns := by
    intro a b
    have hA := JR_act (k := d.1) (a := a) (b := b) hJ
    unfold runA
    split
    · exact hA
    · obtain ⟨hx, hu, he⟩ := hA
      refine ⟨Mx_row hx ?_ (fun j _ => ?_), ?_, fun k hk => ?_⟩
      · dsimp only; rw [up2_ne (by omega), up2_ne (by omega)]
      · dsimp only; rw [up2_ne (by omega), up2_ne (by omega)]
      · dsimp only
        unfold uF
        rw [up2_ne (by omega), up2_ne (by omega)]; exact hu
      · dsimp only; rw [up2_ne (by omega), up2_ne (by omega)]; exact he k hk
  unfold ordF
  split
  · split
    · exact key _ _
    · split
      · exact hJ
      · split
        · exact hJ
        · exact key _ _
  · exact hJ
theorem ord_53 {d : Od} {fo : Option (List Cl)} {nc ns : Nat} (h6 : nc ≤ 6) (hu : uF μ ≤ 16) {x : Nat} (hx : μ 0 53 = nI x) : ∃ y, y ≤ x + 1 ∧ (ordF d fo nc ns μ).2 0 53 = nI y := by
  have key : ∀ a b, ∃ y, y ≤ x + 1 ∧ (runA d fo nc ns μ a b).2 0 53 = nI y := by
    intro a b
    unfold runA
    split
    · exact ⟨x, by omega, (act_keep hu h6 (by omega)).trans hx⟩
    · exact ⟨x + 1, Nat.le_refl _, by dsimp only; rw [up2_at, hx, nI_1]⟩
  unfold ordF
  split
  · split
    · exact key _ _
    · split
      · exact ⟨x, by omega, hx⟩
      · split
        · exact ⟨x, by omega, hx⟩
        · exact key _ _
  · exact ⟨x, by omega, hx⟩
end ORDERS12
