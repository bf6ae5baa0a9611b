/-! the reference: years by draws -/
section MODELJ
variable {E : En} {h : Hp} {m : Nat} {μ : Mu} {l : La}
theorem FoOK_cong {r r' : Nat → Int32} {fo : Option (List Cl)} (h4 : r' 4 = r 4) (h50 : ∀ j, 50 ≤ j → r' j = r j) (hf : FoOK r fo) : FoOK r' fo := by
  cases fo with
  | none => exact h4.trans hf
  | some cls =>
    obtain ⟨i, hi, hi6, hl12, hlen, hcl⟩ := hf
    refine ⟨i, h4.trans hi, hi6, hl12, (h50 _ (by omega)).trans hlen, fun q d hq => ?_⟩
    obtain ⟨a3, a4, a5, a6, g3, g4, g5, g6, eh, e3, e4, e5, e6, hif, hsum⟩ := hcl q d hq
    have eO : lOps r' (50 + 900 * i) = lOps r (50 + 900 * i) := by funext x; exact h50 _ (by omega)
    have eA : lArgs r' (50 + 900 * i) = lArgs r (50 + 900 * i) := by funext x; exact h50 _ (by omega)
    refine ⟨a3, a4, a5, a6, g3, g4, g5, g6, (h50 _ (by omega)).trans eh, (h50 _ (by omega)).trans e3, (h50 _ (by omega)).trans e4, (h50 _ (by omega)).trans e5, (h50 _ (by omega)).trans e6, ?_, ?_⟩
    · rw [eO, eA]; exact hif
    · rw [eO, eA]; exact hsum
/-- equal in all that is told later -/
def Ob (μ : Mu) (l : La) (μ' : Mu) (l' : La) : Prop := (∀ o, o ∈ [1, 2, 3, 4, 6, 9, 33] → μ' o = μ o) ∧ (∀ j, j < 528 → μ' 5 j = μ 5 j) ∧ (∀ j, j ∈ [1, 8, 11, 13, 18, 20, 55, 59] → μ' 0 j = μ 0 j) ∧ (∀ o, o ∈ [15, 16, 17, 31] → l' o = l o)
theorem Ob.rf : Ob μ l μ l := ⟨fun _ _ => rfl, fun _ _ => rfl, fun _ _ => rfl, fun _ _ => rfl⟩
theorem Ob.tr {μ1 μ2 : Mu} {l1 l2 : La} (h1 : Ob μ l μ1 l1) (h2 : Ob μ1 l1 μ2 l2) : Ob μ l μ2 l2 := ⟨fun o ho => (h2.1 o ho).trans (h1.1 o ho), fun j hj => (h2.2.1 j hj).trans (h1.2.1 j hj), fun j hj => (h2.2.2.1 j hj).trans (h1.2.2.1 j hj), fun o ho => (h2.2.2.2 o ho).trans (h1.2.2.2 o ho)⟩
theorem Sx.ob {μ' : Mu} {l' : La} (hS : Sx μ l μ' l') : Ob μ l μ' l' := by
  refine ⟨fun o ho => hS.1 o ?_, fun j _ => congrFun (hS.1 5 (by unfold isScr; omega)) j, fun j hj => hS.2.1 j ?_ ?_, fun o ho => hS.2.2.1 o ?_⟩
  · simp only [List.mem_cons, List.not_mem_nil, or_false] at ho; unfold isScr; omega
  · simp only [List.mem_cons, List.not_mem_nil, or_false] at hj; omega
  · simp only [List.mem_cons, List.not_mem_nil, or_false] at hj; omega
  · simp only [List.mem_cons, List.not_mem_nil, or_false] at ho; unfold isScL; omega
theorem setR_set {ν : Mu} {r q : Nat → Int32} : setR (setR ν r) q = setR ν q := by
  funext o j; unfold setR; split <;> rfl
theorem Sx.sR {μ' : Mu} {l' : La} (hS : Sx μ l μ' l') (q : Nat → Int32) : Sx (setR μ q) l (setR μ' q) l' := by
  refine ⟨fun o ho => ?_, fun j a b => ?_, hS.2.2.1, hS.2.2.2⟩
  · by_cases h2 : o = 2
    · rw [h2, setR_2, setR_2]
    · rw [setR_ne h2, setR_ne h2]; exact hS.1 o ho
  · rw [setR_ne (by decide), setR_ne (by decide)]; exact hS.2.1 j a b
def Oy (μ : Mu) (l : La) (ν : Mu) (κ : La) (r : Nat → Int32) (s : Int64) : Prop := Ob μ l (setR ν (μ 2)) κ ∧ ν 2 = r ∧ κ 0 57 = s ∧ ∀ i, i < 33 → ν 5 (528 + i) = μ 2 (5 + i)
theorem Oy.sx {ν ν' : Mu} {κ κ' : La} {r : Nat → Int32} {s : Int64} (ho : Oy μ l ν κ r s) (hS : Sx ν κ ν' κ') : Oy μ l ν' κ' r s :=
  ⟨ho.1.tr (hS.sR _).ob, hS.row.trans ho.2.1, (hS.2.2.2 57 (by decide) (by decide)).trans ho.2.2.1, fun i hi => by rw [hS.1 5 (by unfold isScr; omega)]; exact ho.2.2.2 i hi⟩
theorem Oy.rw {ν : Mu} {κ : La} {r : Nat → Int32} {s : Int64} (ho : Oy μ l ν κ r s) (q : Nat → Int32) : Oy μ l (setR ν q) κ q s :=
  ⟨by rw [setR_set]; exact ho.1, setR_2, ho.2.2.1, fun i hi => by rw [setR_ne (by decide)]; exact ho.2.2.2 i hi⟩
theorem Ob.J0 {j : Nat} {v : Int64} : Ob μ l μ (up2 l 0 j v) := ⟨fun _ _ => rfl, fun _ _ => rfl, fun _ _ => rfl, fun o ho => by
  simp only [List.mem_cons, List.not_mem_nil, or_false] at ho
  funext i; exact up2_ne (by omega)⟩
theorem Oy.dr {ν : Mu} {κ : La} {r : Nat → Int32} {s : Int64} (ho : Oy μ l ν κ r s) (w : Int64) : Oy μ l ν (up2 κ 0 57 w) r w :=
  ⟨ho.1.tr Ob.J0, ho.2.1, up2_at, ho.2.2.2⟩
/-- the row, but for terms and cats -/
def RY (r0 r : Nat → Int32) : Prop := ∀ j, (j < 5 ∨ 38 ≤ j) → r j = r0 j
theorem Oy.mx {ν : Mu} {κ : La} {r : Nat → Int32} {s : Int64} {fo : Option (List Cl)} {nc ns : Nat} (hx : Mx μ fo nc ns) (ho : Oy μ l ν κ r s) (hr : RY (μ 2) r) : Mx ν fo nc ns := by
  obtain ⟨h1, h2, h3, h4, h5, h6⟩ := hx
  have e20 : ν 0 20 = μ 0 20 := by
    have := ho.1.2.2.1 20 (by simp)
    rw [setR_ne (by decide)] at this; exact this
  refine ⟨e20.trans h1, ?_, ?_, h4, ?_, h6⟩
  · rw [ho.2.1]; exact FoOK_cong (hr 4 (by omega)) (fun j hj => hr j (by omega)) h2
  · rw [ho.2.1]; exact (hr 0 (by omega)).trans h3
  · rw [ho.2.1]; exact (hr 1 (by omega)).trans h5
def dieR (r : Nat → Int32) (k : Nat) (life : Int32) : Nat → Int32 := va_up (va_up (va_up r (8 + k) (if life = 9 then -1 else life)) (14 + k) (yetF (r (14 + k)) life)) (32 + k) (if life = 9 then -1 else r (32 + k))
theorem dieItM_R (ν : Mu) (k : Nat) (life : Int32) : dieItM ν k life = setR ν (dieR (ν 2) k life) := by
  unfold dieItM dieR; rw [← setR_up, ← setR_up, ← setR_up, setR_self]
theorem dieR_Y {r0 r : Nat → Int32} (hr : RY r0 r) {k : Nat} (hk : k < 6) (life : Int32) : RY r0 (dieR r k life) := by
  intro j hj
  unfold dieR
  rw [va_up_ne _ _ (by omega), va_up_ne _ _ (by omega), va_up_ne _ _ (by omega)]
  exact hr j hj
theorem passR_Y {r0 r : Nat → Int32} (hr : RY r0 r) {fo : Option (List Cl)} {n : Nat} (hn : n ≤ 6) : RY r0 (passR r fo n) := by
  intro j hj
  unfold passR
  rw [va_up_ne _ _ (by omega)]
  unfold passK
  rw [if_neg (by omega)]
  exact hr j hj
def drS (s : Int64) : Int64 := lremF (s * 1103 + 12345) 1000003
abbrev Yr : Type := (Nat → Int32) × Int64 × Int32
/-- a cat's turn in a year that is drawn -/
def yrS (fo : Option (List Cl)) (t : Yr) (k : Nat) : Yr :=
  if aliveF t.1 k = true then (if (lremF (drS t.2.1) (10 : Int32).toInt64).toInt32 < dareF t.1 fo k (t.1 (8 + k)) (spentF t.1 k) then (dieR t.1 k (nI (lowest (t.1 (14 + k)) 9)), drS t.2.1, t.2.2 + 1) else (t.1, drS t.2.1, t.2.2)) else t
def yrC (fo : Option (List Cl)) (t : Yr) : Nat → Yr
  | 0 => t
  | k + 1 => yrS fo (yrC fo t k) k
def yrN (fo : Option (List Cl)) (nc : Nat) (t : Yr) : Yr := (passR (yrC fo t nc).1 fo nc, (yrC fo t nc).2)
def yrY (fo : Option (List Cl)) (nc : Nat) (t : Yr) : Nat → Yr
  | 0 => t
  | k + 1 => if (yrY fo nc t k).1 5 < 999 then yrN fo nc (yrY fo nc t k) else yrY fo nc t k
theorem yrY_stop {fo : Option (List Cl)} {nc : Nat} {t : Yr} {k : Nat} (hs : ¬ (yrY fo nc t k).1 5 < 999) : ∀ j, yrY fo nc t (k + j) = yrY fo nc t k
  | 0 => rfl
  | j + 1 => by
    show yrY fo nc t (k + j + 1) = _
    rw [yrY, yrY_stop hs j, if_neg hs]
theorem yrS_Y {r0 : Nat → Int32} {fo : Option (List Cl)} {t : Yr} (hr : RY r0 t.1) {k : Nat} (hk : k < 6) : RY r0 (yrS fo t k).1 := by
  unfold yrS
  split
  · split
    · exact dieR_Y hr hk _
    · exact hr
  · exact hr
theorem yrC_Y {r0 : Nat → Int32} {fo : Option (List Cl)} {t : Yr} (hr : RY r0 t.1) : ∀ k, k ≤ 6 → RY r0 (yrC fo t k).1
  | 0, _ => hr
  | k + 1, hk => yrS_Y (yrC_Y hr k (by omega)) (by omega)
theorem yrY_Y {r0 : Nat → Int32} {fo : Option (List Cl)} {nc : Nat} (h6 : nc ≤ 6) {t : Yr} (hr : RY r0 t.1) : ∀ k, RY r0 (yrY fo nc t k).1
  | 0 => hr
  | k + 1 => by
    have ih := yrY_Y (fo := fo) h6 hr k
    rw [yrY]; split
    · exact passR_Y (yrC_Y ih nc h6) h6
    · exact ih
theorem yrS_d {fo : Option (List Cl)} {t : Yr} {k d : Nat} (hd : t.2.2 = nI d) : ∃ x, x ≤ d + 1 ∧ (yrS fo t k).2.2 = nI x := by
  unfold yrS
  split
  · split
    · exact ⟨d + 1, Nat.le_refl _, by show t.2.2 + 1 = _; rw [hd, nI_1]⟩
    · exact ⟨d, by omega, hd⟩
  · exact ⟨d, by omega, hd⟩
theorem yrC_d {fo : Option (List Cl)} {t : Yr} {d : Nat} (hd : t.2.2 = nI d) : ∀ k, ∃ x, x ≤ d + k ∧ (yrC fo t k).2.2 = nI x
  | 0 => ⟨d, by omega, hd⟩
  | k + 1 => by
    obtain ⟨x, hx, e⟩ := yrC_d (fo := fo) hd k
    obtain ⟨y, hy, e2⟩ := yrS_d (fo := fo) (k := k) e
    exact ⟨y, by omega, e2⟩
theorem yrY_d {fo : Option (List Cl)} {nc : Nat} (h6 : nc ≤ 6) {t : Yr} (hd : t.2.2 = nI 0) : ∀ k, ∃ x, x ≤ 6 * k ∧ (yrY fo nc t k).2.2 = nI x
  | 0 => ⟨0, by omega, hd⟩
  | k + 1 => by
    obtain ⟨x, hx, e⟩ := yrY_d (fo := fo) h6 hd k
    rw [yrY]; split
    · obtain ⟨y, hy, e2⟩ := yrC_d (fo := fo) e nc
      exact ⟨y, by omega, e2⟩
    · exact ⟨x, by omega, e⟩
/-- what was drawn, so far as cat k -/
def drN (X : Mu) (T : Nat → Int32) (k : Nat) : Mu := fun o j => if o = 33 ∧ j < k then T (8 + j) else if o = 33 ∧ 6 ≤ j ∧ j < 6 + k then onesN (T (14 + (j - 6))) 9 else if o = 33 ∧ 12 ≤ j ∧ j < 12 + k then T (26 + (j - 12)) else X o j
theorem drN_0 (X : Mu) (T : Nat → Int32) : drN X T 0 = X := by funext o j; unfold drN; rw [if_neg (by omega), if_neg (by omega), if_neg (by omega)]
theorem drN_ne {X : Mu} {T : Nat → Int32} {k o : Nat} (ho : o ≠ 33) : drN X T k o = X o := by funext j; unfold drN; rw [if_neg (by omega), if_neg (by omega), if_neg (by omega)]
theorem drN_s (X : Mu) (T : Nat → Int32) {k : Nat} (hk : k < 6) : up2 (up2 (up2 (drN X T k) 33 k (T (8 + k))) 33 (6 + k) (onesN (T (14 + k)) 9)) 33 (12 + k) (T (26 + k)) = drN X T (k + 1) := by
  funext o j
  by_cases h0 : o = 33
  · subst h0
    by_cases h1 : j = 12 + k
    · subst h1; rw [up2_at]; unfold drN; rw [if_neg (by omega), if_neg (by omega), if_pos ⟨rfl, by omega, by omega⟩, show 12 + k - 12 = k by omega]
    · rw [up2_ne (by omega)]
      by_cases h2 : j = 6 + k
      · subst h2; rw [up2_at]; unfold drN; rw [if_neg (by omega), if_pos ⟨rfl, by omega, by omega⟩, show 6 + k - 6 = k by omega]
      · rw [up2_ne (by omega)]
        by_cases h3 : j = k
        · subst h3; rw [up2_at]; unfold drN; rw [if_pos ⟨rfl, by omega⟩]
        · rw [up2_ne (by omega)]; unfold drN
          by_cases a1 : j < k
          · rw [if_pos ⟨rfl, a1⟩, if_pos ⟨rfl, by omega⟩]
          · by_cases a2 : 6 ≤ j ∧ j < 6 + k
            · rw [if_neg (by omega), if_pos ⟨rfl, a2⟩, if_neg (by omega), if_pos ⟨rfl, by omega, by omega⟩]
            · by_cases a3 : 12 ≤ j ∧ j < 12 + k
              · rw [if_neg (by omega), if_neg (by omega), if_pos ⟨rfl, a3⟩, if_neg (by omega), if_neg (by omega), if_pos ⟨rfl, by omega, by omega⟩]
              · rw [if_neg (by omega), if_neg (by omega), if_neg (by omega), if_neg (by omega), if_neg (by omega), if_neg (by omega)]
  · rw [up2_ne (by omega), up2_ne (by omega), up2_ne (by omega), drN_ne h0, drN_ne h0]
theorem drN_back (ν : Mu) (x : Int32) (T : Nat → Int32) (k q : Nat) : backN (drN (up2 ν 0 59 x) T k) q 33 = drN (up2 (backN ν q 33) 0 59 x) T k := by
  funext o j
  by_cases h2 : o = 2
  · subst h2
    rw [drN_ne (by decide), up2_ne (by omega)]
    unfold backN
    by_cases h3 : 5 ≤ j ∧ j < 38
    · rw [if_pos ⟨rfl, h3⟩, if_pos ⟨rfl, h3⟩, drN_ne (by decide), up2_ne (by omega)]
    · rw [if_neg (fun z => h3 z.2), if_neg (fun z => h3 z.2), drN_ne (by decide), up2_ne (by omega)]
  · have e1 : ∀ X : Mu, backN X q 33 o = X o := fun X => by funext i; unfold backN; rw [if_neg (fun z => h2 z.1)]
    rw [e1]
    by_cases h3 : o = 33
    · subst h3
      unfold drN
      rw [up2_ne (by omega), up2_ne (by omega), e1]
    · rw [drN_ne h3, drN_ne h3]
      by_cases h4 : o = 0 ∧ j = 59
      · obtain ⟨rfl, rfl⟩ := h4; rw [up2_at, up2_at]
      · rw [up2_ne h4, up2_ne h4, e1]
theorem Oy.fin {ν : Mu} {κ : La} {r : Nat → Int32} {s : Int64} (ho : Oy μ l ν κ r s) (hr : RY (μ 2) r) : Ob μ l (backN ν 16 33) κ := by
  have e1 : ∀ o, o ≠ 2 → backN ν 16 33 o = setR ν (μ 2) o := fun o h2 => by funext i; unfold backN; rw [if_neg (fun z => h2 z.1), setR_ne h2]
  have e2 : backN ν 16 33 2 = μ 2 := by
    funext j; unfold backN
    by_cases h3 : 5 ≤ j ∧ j < 38
    · rw [if_pos ⟨rfl, h3⟩, show 33 * 16 + (j - 5) = 528 + (j - 5) by omega, ho.2.2.2 (j - 5) (by omega), show 5 + (j - 5) = j by omega]
    · rw [if_neg (fun z => h3 z.2), ho.2.1]; exact hr j (by omega)
  refine ⟨fun o hm => ?_, fun j hj => by rw [e1 5 (by decide)]; exact ho.1.2.1 j hj, fun j hj => by rw [e1 0 (by decide)]; exact ho.1.2.2.1 j hj, ho.1.2.2.2⟩
  by_cases h2 : o = 2
  · rw [h2]; exact e2
  · rw [e1 o h2]; exact ho.1.1 o hm
def yearsT (r : Nat → Int32) (fo : Option (List Cl)) (nc : Nat) (seed n : Int32) : Yr := yrY fo nc (r, seed.toInt64, 0) n.toNatClampNeg
def yearsOK (nc : Nat) (seed n : Int32) : Int32 := if inN seed 1000001 = true ∧ inN n 61 = true ∧ ¬ n = 0 then (if nc = 0 then -3 else 0) else -1
def yearsV (r : Nat → Int32) (fo : Option (List Cl)) (nc : Nat) (seed n : Int32) : Int32 := if yearsOK nc seed n = 0 then (yearsT r fo nc seed n).2.2 else yearsOK nc seed n
def yearsM (r : Nat → Int32) (fo : Option (List Cl)) (nc : Nat) (seed n : Int32) (ν : Mu) : Mu := if yearsOK nc seed n = 0 then tellM (drN (up2 ν 0 59 (nI nc)) (yearsT r fo nc seed n).1 nc) (yearsT r fo nc seed n).2.2 else tellM ν (yearsOK nc seed n)
/-- an answer; the memory, in what is told later, as changed by F -/
def pO (h : Hp) (m : Nat) (μ : Mu) (l : La) (F : Mu → Mu) (v : Option Value) : Option Value → Hp → Prop := fun r h' => ∃ ν κ, Ob μ l ν κ ∧ h' = mH h m (F ν) κ ∧ r = v
theorem Ob.th : Ob μ l (up2 μ 0 0 0) l := by
  refine ⟨fun o ho => ?_, fun j _ => up2_ne (by omega), fun j hj => up2_ne ?_, fun _ _ => rfl⟩
  · simp only [List.mem_cons, List.not_mem_nil, or_false] at ho
    funext j; exact up2_ne (by omega)
  · simp only [List.mem_cons, List.not_mem_nil, or_false] at hj; omega
theorem in_160 {n : Int32} : decide ((1 : Int64) ≤ n.toInt64 ∧ n.toInt64 ≤ 60) = decide (inN n 61 = true ∧ ¬ n = 0) := by
  congr 1
  rw [fa_le64, fa_le64, Int32.toInt_toInt64]
  apply propext
  unfold inN
  rw [decide_eq_true_iff]
  constructor
  · intro z
    have z1 : (1 : Int) ≤ n.toInt := z.1
    have z2 : n.toInt ≤ (60 : Int) := z.2
    refine ⟨⟨by omega, by omega⟩, fun e => ?_⟩
    rw [e] at z1; exact absurd z1 (by decide)
  · rintro ⟨z, z0⟩
    have : n.toInt ≠ 0 := fun e => z0 (Int32.toInt_inj.mp e)
    refine ⟨show (1 : Int) ≤ n.toInt by omega, show n.toInt ≤ (60 : Int) by omega⟩
theorem ct_myears (hm : Md E h m) {fo : Option (List Cl)} {nc ns : Nat} (hx : Mx μ fo nc ns) (seed n : Int32) : Ct E 7 0 0 mX12_years [.ref m, .int seed, .int n] (mH h m μ l) (pO h m μ l (yearsM (μ 2) fo nc seed n) (some (.int (yearsV (μ 2) fo nc seed n)))) := by
  have h6 := hx.2.2.2.1
  have hnc := hx.2.2.1
  refine Ct.of (by decide +kernel) (Nat.le_of_ble_eq_true rfl) ?_
  have no : ¬ (inN seed 1000001 = true ∧ inN n 61 = true ∧ ¬ n = 0) → Wp E mX12_years (Rm 7 0 0) (Qm E (pO h m μ l (yearsM (μ 2) fo nc seed n) (some (.int (yearsV (μ 2) fo nc seed n)))) 0 0) 29 [(0, .ref m), (1, .int seed), (2, .int n)] [] (mH h m (up2 μ 0 0 0) l) 0 0 := by
    intro hno
    have e : yearsOK nc seed n = -1 := if_neg hno
    refine r_aload_n (pc := 29) 0 dX12_years_29 rfl ?_
    refine r_iconst (pc := 30) (-1) dX12_years_30 rfl ?_
    refine r_dV (pc := 31) (As := [_]) mv_X12_tell ml_X12_170 (ct_tell hm _ t_1) (q_is hm) rfl rfl (Nat.le_of_ble_eq_true rfl) (Nat.le_of_ble_eq_true rfl) (Nat.le_of_ble_eq_true rfl) (Nat.le_of_ble_eq_true rfl) (Nat.le_of_ble_eq_true rfl) dX12_years_31 ?_
    refine r_iret (pc := 34) rfl ?_ (Nat.le_of_ble_eq_true rfl) (Nat.le_of_ble_eq_true rfl) dX12_years_34
    exact ⟨_, _, Ob.th, by rw [yearsM, e, if_neg (by decide)], by rw [yearsV, e, if_neg (by decide)]⟩
  refine r_aload_n (pc := 0) 0 dX12_years_0 rfl ?_
  refine r_iconst (pc := 1) (0) dX12_years_1 rfl ?_
  refine q_putI (pc := 2) fp_X12_161 hm dX12_years_2 ?_
  refine r_iload_n (pc := 5) 1 dX12_years_5 rfl ?_
  refine r_i2l (pc := 6) dX12_years_6 ?_
  refine r_lconst (pc := 7) (0) dX12_years_7 rfl ?_
  refine r_ldc2_w (pc := 8) cs_X12_289 dX12_years_8 ?_
  refine r_dS (pc := 11) (As := [_, _, _]) ms_X12_in ml_X12_181 (ct_in _ _ _) rfl rfl (Nat.le_of_ble_eq_true rfl) (Nat.le_of_ble_eq_true rfl) (Nat.le_of_ble_eq_true rfl) (Nat.le_of_ble_eq_true rfl) (Nat.le_of_ble_eq_true rfl) dX12_years_11 ?_
  refine r_if_eq (pc := 14) (tgt := 29) dX12_years_14 (by decide) (fun c_14 => ?_) (fun c_14 => ?_)
  · rw [show decide _ = inN seed 1000001 from in_lit (b := 1000000) (n := 1000000) (by decide)] at c_14
    exact no (fun z => by rw [bI_0.mp c_14] at z; exact absurd z.1 (by decide))
  · rw [show decide _ = inN seed 1000001 from in_lit (b := 1000000) (n := 1000000) (by decide)] at c_14
    refine r_iload_n (pc := 17) 2 dX12_years_17 rfl ?_
    refine r_i2l (pc := 18) dX12_years_18 ?_
    refine r_lconst (pc := 19) (1) dX12_years_19 rfl ?_
    refine r_ldc2_w (pc := 20) cs_X12_478 dX12_years_20 ?_
    refine r_dS (pc := 23) (As := [_, _, _]) ms_X12_in ml_X12_181 (ct_in _ _ _) rfl rfl (Nat.le_of_ble_eq_true rfl) (Nat.le_of_ble_eq_true rfl) (Nat.le_of_ble_eq_true rfl) (Nat.le_of_ble_eq_true rfl) (Nat.le_of_ble_eq_true rfl) dX12_years_23 ?_
    refine r_if_ne (pc := 26) (tgt := 35) dX12_years_26 (by decide) (fun c_26 => ?_) (fun c_26 => ?_)
    · rw [show decide _ = decide (inN n 61 = true ∧ ¬ n = 0) from in_160] at c_26
      have hn := of_decide_eq_true (bI_n0.mp c_26)
      have hok : inN seed 1000001 = true ∧ inN n 61 = true ∧ ¬ n = 0 := ⟨bI_n0.mp c_14, hn⟩
      refine r_aload_n (pc := 35) 0 dX12_years_35 rfl ?_
      refine q_getR (pc := 36) fl_X12_13 hm (md_f3 hm) dX12_years_36 ?_
      refine r_iconst (pc := 39) (0) dX12_years_39 rfl ?_
      refine q_iald (pc := 40) (j := 0) (md_r3 hm) (by decide) rfl (by decide) (by decide) dX12_years_40 ?_
      refine r_if_ne (pc := 41) (tgt := 51) dX12_years_41 (by decide) (fun c_41 => ?_) (fun c_41 => ?_)
      · rw [th_2, hnc] at c_41
        have hn0 : ¬ nc = 0 := fun z => c_41 (by rw [z]; rfl)
        have eOK : yearsOK nc seed n = 0 := by rw [yearsOK, if_pos hok, if_neg hn0]
        obtain ⟨N, hN, rfl⟩ := inN_of (by decide) hn.1
        have eT : yearsT (μ 2) fo nc seed (nI N) = yrY fo nc (μ 2, seed.toInt64, 0) N := by rw [yearsT, nI_clamp (by omega)]
        obtain ⟨D, hD, eD⟩ := yrY_d (fo := fo) h6 (t := ((μ 2, seed.toInt64, 0) : Yr)) rfl N
        have hRY := yrY_Y (fo := fo) h6 (t := ((μ 2, seed.toInt64, 0) : Yr)) (r0 := μ 2) (fun _ _ => rfl)
        have eF : yearsM (μ 2) fo nc seed (nI N) = fun ν => tellM (drN (up2 ν 0 59 (nI nc)) (yrY fo nc (μ 2, seed.toInt64, 0) N).1 nc) (yrY fo nc (μ 2, seed.toInt64, 0) N).2.2 := by funext ν; rw [yearsM, if_pos eOK, eT]
        have eV : yearsV (μ 2) fo nc seed (nI N) = (yrY fo nc (μ 2, seed.toInt64, 0) N).2.2 := by rw [yearsV, if_pos eOK, eT]
        rw [eF, eV]
        have h0t : ((μ 2, seed.toInt64, 0) : Yr).2.2 = 0 := rfl
        have h0r : ((μ 2, seed.toInt64, 0) : Yr).1 = μ 2 := rfl
        have h0s : ((μ 2, seed.toInt64, 0) : Yr).2.1 = seed.toInt64 := rfl
        generalize ((μ 2, seed.toInt64, 0) : Yr) = t0 at eD hRY h0t h0r h0s ⊢
        have last : ∀ ν κ, Oy μ l ν κ (yrY fo nc t0 N).1 (yrY fo nc t0 N).2.1 → ∀ k, k ≤ nc → Wp E mX12_years (Rm 7 0 0) (Qm E (pO h m μ l (fun ν => tellM (drN (up2 ν 0 59 (nI nc)) (yrY fo nc t0 N).1 nc) (yrY fo nc t0 N).2.2) (some (.int (yrY fo nc t0 N).2.2))) 0 0) 184 [(0, .ref m), (1, .int seed), (2, .int (nI N)), (3, .int (yrY fo nc t0 N).2.2), (4, .int (nI k))] [] (mH h m (drN (up2 ν 0 59 (nI nc)) (yrY fo nc t0 N).1 k) κ) 0 0 := by
          intro ν κ hO
          have hO2 := hO.2.1
          have hOf := hO.fin (hRY N)
          generalize yrY fo nc t0 N = T at eD hO2 hOf ⊢
          have e59 : ∀ k, drN (up2 ν 0 59 (nI nc)) T.1 k 0 59 = nI nc := fun k => by rw [drN_ne (by decide), up2_at]
          have er : ∀ k, drN (up2 ν 0 59 (nI nc)) T.1 k 2 = T.1 := fun k => by rw [drN_ne (by decide)]; funext j; rw [up2_ne (by omega), hO2]
          refine upTo (fun k hk ih => ?_) ?_
          · refine r_iload (pc := 184) 4 dX12_years_184 rfl ?_
            refine r_aload_n (pc := 186) 0 dX12_years_186 rfl ?_
            refine q_getI (pc := 187) fl_X12_158 hm dX12_years_187 ?_
            refine r_icmp_ge (pc := 190) (tgt := 259) dX12_years_190 (by decide) (fun c_190 => ?_) (fun c_190 => ?_)
            · rw [e59] at c_190
              exact absurd c_190 (nI_ge hk (by omega))
            · refine r_aload_n (pc := 193) 0 dX12_years_193 rfl ?_
              refine q_getR (pc := 194) fl_X12_155 hm (md_f58 hm) dX12_years_194 ?_
              refine r_iload (pc := 197) 4 dX12_years_197 rfl ?_
              refine r_aload_n (pc := 199) 0 dX12_years_199 rfl ?_
              refine q_getR (pc := 200) fl_X12_13 hm (md_f3 hm) dX12_years_200 ?_
              refine r_bipush (pc := 203) (8) dX12_years_203 rfl ?_
              refine r_iload (pc := 205) 4 dX12_years_205 rfl ?_
              refine r_iadd (pc := 207) dX12_years_207 ?_
              refine q_iald (pc := 208) (j := 8 + k) (md_r3 hm) (by decide) (by simp only [fa_lit, nI_add, nI_mul]) (by omega) (by decide) dX12_years_208 ?_
              refine q_iast (pc := 209) (j := k) (md_r58 hm) (by decide) rfl (by omega) (by decide) dX12_years_209 ?_
              rw [er]
              have er1 : ∀ v, up2 (drN (up2 ν 0 59 (nI nc)) T.1 k) 33 k v 2 = T.1 := fun v => by funext j; rw [up2_ne (by omega), er]
              refine r_aload_n (pc := 210) 0 dX12_years_210 rfl ?_
              refine q_getR (pc := 211) fl_X12_155 hm (md_f58 hm) dX12_years_211 ?_
              refine r_bipush (pc := 214) (6) dX12_years_214 rfl ?_
              refine r_iload (pc := 216) 4 dX12_years_216 rfl ?_
              refine r_iadd (pc := 218) dX12_years_218 ?_
              refine r_aload_n (pc := 219) 0 dX12_years_219 rfl ?_
              refine q_getR (pc := 220) fl_X12_13 hm (md_f3 hm) dX12_years_220 ?_
              refine r_bipush (pc := 223) (14) dX12_years_223 rfl ?_
              refine r_iload (pc := 225) 4 dX12_years_225 rfl ?_
              refine r_iadd (pc := 227) dX12_years_227 ?_
              refine q_iald (pc := 228) (j := 14 + k) (md_r3 hm) (by decide) (by simp only [fa_lit, nI_add, nI_mul]) (by omega) (by decide) dX12_years_228 ?_
              refine r_dS (pc := 229) (As := [_]) ms_X12_ones ml_X12_190 (ct_ones _) rfl rfl (Nat.le_of_ble_eq_true rfl) (Nat.le_of_ble_eq_true rfl) (Nat.le_of_ble_eq_true rfl) (Nat.le_of_ble_eq_true rfl) (Nat.le_of_ble_eq_true rfl) dX12_years_229 ?_
              refine q_iast (pc := 232) (j := 6 + k) (md_r58 hm) (by decide) (by simp only [fa_lit, nI_add, nI_mul]) (by omega) (by decide) dX12_years_232 ?_
              rw [er1]
              have er2 : ∀ v w, up2 (up2 (drN (up2 ν 0 59 (nI nc)) T.1 k) 33 k v) 33 (6 + k) w 2 = T.1 := fun v w => by funext j; rw [up2_ne (by omega), er1]
              refine r_aload_n (pc := 233) 0 dX12_years_233 rfl ?_
              refine q_getR (pc := 234) fl_X12_155 hm (md_f58 hm) dX12_years_234 ?_
              refine r_bipush (pc := 237) (12) dX12_years_237 rfl ?_
              refine r_iload (pc := 239) 4 dX12_years_239 rfl ?_
              refine r_iadd (pc := 241) dX12_years_241 ?_
              refine r_aload_n (pc := 242) 0 dX12_years_242 rfl ?_
              refine q_getR (pc := 243) fl_X12_13 hm (md_f3 hm) dX12_years_243 ?_
              refine r_bipush (pc := 246) (26) dX12_years_246 rfl ?_
              refine r_iload (pc := 248) 4 dX12_years_248 rfl ?_
              refine r_iadd (pc := 250) dX12_years_250 ?_
              refine q_iald (pc := 251) (j := 26 + k) (md_r3 hm) (by decide) (by simp only [fa_lit, nI_add, nI_mul]) (by omega) (by decide) dX12_years_251 ?_
              refine q_iast (pc := 252) (j := 12 + k) (md_r58 hm) (by decide) (by simp only [fa_lit, nI_add, nI_mul]) (by omega) (by decide) dX12_years_252 ?_
              refine r_iinc (pc := 253) (v := _ + (1)) (lv' := [(0, _), (1, _), (2, _), (3, _), (4, _)]) 4 dX12_years_253 rfl rfl (Nat.le_of_ble_eq_true rfl) rfl ?_
              refine r_goto (pc := 256) (tgt := 184) dX12_years_256 (by decide) ?_
              rw [er2, drN_s _ _ (by omega), nI_1]
              exact ih
          · refine r_iload (pc := 184) 4 dX12_years_184 rfl ?_
            refine r_aload_n (pc := 186) 0 dX12_years_186 rfl ?_
            refine q_getI (pc := 187) fl_X12_158 hm dX12_years_187 ?_
            refine r_icmp_ge (pc := 190) (tgt := 259) dX12_years_190 (by decide) (fun c_190 => ?_) (fun c_190 => ?_)
            · refine r_aload_n (pc := 259) 0 dX12_years_259 rfl ?_
              refine r_bipush (pc := 260) (16) dX12_years_260 rfl ?_
              refine r_dV0 (pc := 262) (As := [_]) mv_X12_putBack ml_X12_178 (ct_putBack hm 16 (by decide)) (q_is hm) rfl rfl (Nat.le_of_ble_eq_true rfl) (Nat.le_of_ble_eq_true rfl) (Nat.le_of_ble_eq_true rfl) (Nat.le_of_ble_eq_true rfl) (Nat.le_of_ble_eq_true rfl) dX12_years_262 ?_
              refine r_aload_n (pc := 265) 0 dX12_years_265 rfl ?_
              refine r_iload_n (pc := 266) 3 dX12_years_266 rfl ?_
              refine r_dV (pc := 267) (As := [_]) mv_X12_tell ml_X12_170 (ct_tell hm _ (t_p (by rw [eD]; exact nI_pos' (by omega)))) (q_is hm) rfl rfl (Nat.le_of_ble_eq_true rfl) (Nat.le_of_ble_eq_true rfl) (Nat.le_of_ble_eq_true rfl) (Nat.le_of_ble_eq_true rfl) (Nat.le_of_ble_eq_true rfl) dX12_years_267 ?_
              refine r_iret (pc := 270) rfl ?_ (Nat.le_of_ble_eq_true rfl) (Nat.le_of_ble_eq_true rfl) dX12_years_270
              exact ⟨backN ν 16 33, κ, hOf, by rw [drN_back], rfl⟩
            · exact absurd (by rw [e59]; exact Int32.le_refl _) c_190
        have over : ∀ (x : Int32) ν κ, Oy μ l ν κ (yrY fo nc t0 N).1 (yrY fo nc t0 N).2.1 → Wp E mX12_years (Rm 7 0 0) (Qm E (pO h m μ l (fun ν => tellM (drN (up2 ν 0 59 (nI nc)) (yrY fo nc t0 N).1 nc) (yrY fo nc t0 N).2.2) (some (.int (yrY fo nc t0 N).2.2))) 0 0) 171 [(0, .ref m), (1, .int seed), (2, .int (nI N)), (3, .int (yrY fo nc t0 N).2.2), (4, .int x)] [] (mH h m ν κ) 0 0 := by
          intro x ν κ hO
          have e0 : ν 2 0 = nI nc := by rw [hO.2.1]; exact (hRY N 0 (by omega)).trans hnc
          refine r_aload_n (pc := 171) 0 dX12_years_171 rfl ?_
          refine r_aload_n (pc := 172) 0 dX12_years_172 rfl ?_
          refine q_getR (pc := 173) fl_X12_13 hm (md_f3 hm) dX12_years_173 ?_
          refine r_iconst (pc := 176) (0) dX12_years_176 rfl ?_
          refine q_iald (pc := 177) (j := 0) (md_r3 hm) (by decide) rfl (by decide) (by decide) dX12_years_177 ?_
          refine q_putI (pc := 178) fp_X12_158 hm dX12_years_178 ?_
          refine r_iconst (pc := 181) (0) dX12_years_181 rfl ?_
          refine r_istore (pc := 182) (lv' := [(0, _), (1, _), (2, _), (3, _), (4, _)]) dX12_years_182 (Nat.le_of_ble_eq_true rfl) rfl ?_
          rw [e0]
          have h0 := last ν κ hO 0 (by omega)
          rw [drN_0] at h0
          exact h0
        have loop : ∀ k, k ≤ N → ∀ ν κ, Oy μ l ν κ (yrY fo nc t0 k).1 (yrY fo nc t0 k).2.1 → Wp E mX12_years (Rm 7 0 0) (Qm E (pO h m μ l (fun ν => tellM (drN (up2 ν 0 59 (nI nc)) (yrY fo nc t0 N).1 nc) (yrY fo nc t0 N).2.2) (some (.int (yrY fo nc t0 N).2.2))) 0 0) 68 [(0, .ref m), (1, .int seed), (2, .int (nI N)), (3, .int (yrY fo nc t0 k).2.2), (4, .int (nI k))] [] (mH h m ν κ) 0 0 := by
          refine upTo (fun k hk ih => ?_) ?_
          · intro ν κ hO
            refine r_iload (pc := 68) 4 dX12_years_68 rfl ?_
            refine r_iload_n (pc := 70) 2 dX12_years_70 rfl ?_
            refine r_icmp_ge (pc := 71) (tgt := 171) dX12_years_71 (by decide) (fun c_71 => ?_) (fun c_71 => ?_)
            · exact absurd c_71 (nI_ge hk (by omega))
            · refine r_aload_n (pc := 74) 0 dX12_years_74 rfl ?_
              refine q_getR (pc := 75) fl_X12_13 hm (md_f3 hm) dX12_years_75 ?_
              refine r_iconst (pc := 78) (5) dX12_years_78 rfl ?_
              refine q_iald (pc := 79) (j := 5) (md_r3 hm) (by decide) rfl (by decide) (by decide) dX12_years_79 ?_
              refine r_sipush (pc := 80) (999) dX12_years_80 rfl ?_
              refine r_icmp_ge (pc := 83) (tgt := 171) dX12_years_83 (by decide) (fun c_83 => ?_) (fun c_83 => ?_)
              · rw [hO.2.1] at c_83
                have eN : yrY fo nc t0 N = yrY fo nc t0 k := by rw [show N = k + (N - k) by omega]; exact yrY_stop (Int32.not_lt.mpr c_83) _
                have hov := over (nI k) ν κ
                rw [eN] at hov ⊢
                exact hov hO
              · rw [hO.2.1] at c_83
                have eS : yrY fo nc t0 (k + 1) = yrN fo nc (yrY fo nc t0 k) := by rw [yrY, if_pos (Int32.not_le.mp c_83)]
                rw [eS] at ih
                have hRk := hRY k
                generalize yrY fo nc t0 k = T at ih hO hRk ⊢
                have cats : ∀ a, a ≤ nc → ∀ ν κ, Oy μ l ν κ (yrC fo T a).1 (yrC fo T a).2.1 → Wp E mX12_years (Rm 7 0 0) (Qm E (pO h m μ l (fun ν => tellM (drN (up2 ν 0 59 (nI nc)) (yrY fo nc t0 N).1 nc) (yrY fo nc t0 N).2.2) (some (.int (yrY fo nc t0 N).2.2))) 0 0) 89 [(0, .ref m), (1, .int seed), (2, .int (nI N)), (3, .int (yrC fo T a).2.2), (4, .int (nI k)), (5, .int (nI a))] [] (mH h m ν κ) 0 0 := by
                  refine upTo (fun a ha ih2 => ?_) ?_
                  · intro ν κ hO
                    have hRa := yrC_Y (fo := fo) hRk a (by omega)
                    have hx1 := Oy.mx hx hO hRa
                    rw [show yrC fo T (a + 1) = yrS fo (yrC fo T a) a from rfl] at ih2
                    generalize yrC fo T a = U at ih2 hO hRa ⊢
                    have e2 := hO.2.1
                    refine r_iload (pc := 89) 5 dX12_years_89 rfl ?_
                    refine r_aload_n (pc := 91) 0 dX12_years_91 rfl ?_
                    refine q_getR (pc := 92) fl_X12_13 hm (md_f3 hm) dX12_years_92 ?_
                    refine r_iconst (pc := 95) (0) dX12_years_95 rfl ?_
                    refine q_iald (pc := 96) (j := 0) (md_r3 hm) (by decide) rfl (by decide) (by decide) dX12_years_96 ?_
                    refine r_icmp_ge (pc := 97) (tgt := 161) dX12_years_97 (by decide) (fun c_97 => ?_) (fun c_97 => ?_)
                    · rw [hx1.2.2.1] at c_97
                      exact absurd c_97 (nI_ge ha (by omega))
                    · refine r_aload_n (pc := 100) 0 dX12_years_100 rfl ?_
                      refine r_iload (pc := 101) 5 dX12_years_101 rfl ?_
                      refine r_dV (pc := 103) (As := [_]) mv_X12_isAlive ml_X12_193 (ct_isAlive hm a (by omega)) (q_is hm) rfl rfl (Nat.le_of_ble_eq_true rfl) (Nat.le_of_ble_eq_true rfl) (Nat.le_of_ble_eq_true rfl) (Nat.le_of_ble_eq_true rfl) (Nat.le_of_ble_eq_true rfl) dX12_years_103 ?_
                      refine r_if_eq (pc := 106) (tgt := 155) dX12_years_106 (by decide) (fun c_106 => ?_) (fun c_106 => ?_)
                      · rw [e2] at c_106
                        have eU : yrS fo U a = U := by rw [yrS, if_neg (by rw [bI_0.mp c_106]; decide)]
                        rw [eU] at ih2
                        refine r_iinc (pc := 155) (v := _ + (1)) (lv' := [(0, _), (1, _), (2, _), (3, _), (4, _), (5, _)]) 5 dX12_years_155 rfl rfl (Nat.le_of_ble_eq_true rfl) rfl ?_
                        refine r_goto (pc := 158) (tgt := 89) dX12_years_158 (by decide) ?_
                        rw [nI_1]
                        exact ih2 ν κ hO
                      · rw [e2] at c_106
                        have hal := bI_n0.mp c_106
                        refine r_aload_n (pc := 109) 0 dX12_years_109 rfl ?_
                        refine r_bipush (pc := 110) (10) dX12_years_110 rfl ?_
                        refine r_dV (pc := 112) (As := [_]) mv_X12_draw ml_X12_537 (ct_draw hm _ (by decide)) (q_is hm) rfl rfl (Nat.le_of_ble_eq_true rfl) (Nat.le_of_ble_eq_true rfl) (Nat.le_of_ble_eq_true rfl) (Nat.le_of_ble_eq_true rfl) (Nat.le_of_ble_eq_true rfl) dX12_years_112 ?_
                        have hOd := hO.dr (drS (κ 0 57))
                        rw [show lremF (κ 0 57 * 1103 + 12345) 1000003 = drS (κ 0 57) from rfl]
                        rw [hO.2.2.1] at hOd ⊢
                        refine r_aload_n (pc := 115) 0 dX12_years_115 rfl ?_
                        refine r_iload (pc := 116) 5 dX12_years_116 rfl ?_
                        refine r_aload_n (pc := 118) 0 dX12_years_118 rfl ?_
                        refine q_getR (pc := 119) fl_X12_13 hm (md_f3 hm) dX12_years_119 ?_
                        refine r_bipush (pc := 122) (8) dX12_years_122 rfl ?_
                        refine r_iload (pc := 124) 5 dX12_years_124 rfl ?_
                        refine r_iadd (pc := 126) dX12_years_126 ?_
                        refine q_iald (pc := 127) (j := 8 + a) (md_r3 hm) (by decide) (by simp only [fa_lit, nI_add, nI_mul]) (by omega) (by decide) dX12_years_127 ?_
                        refine r_aload_n (pc := 128) 0 dX12_years_128 rfl ?_
                        refine r_iload (pc := 129) 5 dX12_years_129 rfl ?_
                        refine r_dV (pc := 131) (As := [_]) mv_X12_spentOf ml_X12_213 (ct_spentOf hm a (by omega)) (q_is hm) rfl rfl (Nat.le_of_ble_eq_true rfl) (Nat.le_of_ble_eq_true rfl) (Nat.le_of_ble_eq_true rfl) (Nat.le_of_ble_eq_true rfl) (Nat.le_of_ble_eq_true rfl) dX12_years_131 ?_
                        refine r_callV (pc := 134) (As := [_, _, _]) mv_X12_daresOf ml_X12_219 (ct_daresOf hm (Oy.mx hx hOd hRa) (by omega) _ _) (q_is hm) rfl rfl (Nat.le_of_ble_eq_true rfl) (Nat.le_of_ble_eq_true rfl) (Nat.le_of_ble_eq_true rfl) (Nat.le_of_ble_eq_true rfl) (Nat.le_of_ble_eq_true rfl) dX12_years_134 (fun r h1 hp => ?_)
                        obtain ⟨ν2, κ2, rfl, hS2, rfl⟩ := hp
                        have hO2 := hOd.sx hS2.x
                        rw [e2]
                        show Wp E mX12_years _ _ _ _ [.int _, .int _] _ 0 0
                        refine r_icmp_ge (pc := 137) (tgt := 155) dX12_years_137 (by decide) (fun c_137 => ?_) (fun c_137 => ?_)
                        · have eU : yrS fo U a = (U.1, drS U.2.1, U.2.2) := by rw [yrS, if_pos hal, if_neg (Int32.not_lt.mpr c_137)]
                          rw [eU] at ih2
                          refine r_iinc (pc := 155) (v := _ + (1)) (lv' := [(0, _), (1, _), (2, _), (3, _), (4, _), (5, _)]) 5 dX12_years_155 rfl rfl (Nat.le_of_ble_eq_true rfl) rfl ?_
                          refine r_goto (pc := 158) (tgt := 89) dX12_years_158 (by decide) ?_
                          rw [nI_1]
                          exact ih2 ν2 κ2 hO2
                        · have eU : yrS fo U a = (dieR U.1 a (nI (lowest (U.1 (14 + a)) 9)), drS U.2.1, U.2.2 + 1) := by rw [yrS, if_pos hal, if_pos (Int32.not_le.mp c_137)]
                          rw [eU] at ih2
                          refine r_aload_n (pc := 140) 0 dX12_years_140 rfl ?_
                          refine r_iload (pc := 141) 5 dX12_years_141 rfl ?_
                          refine r_aload_n (pc := 143) 0 dX12_years_143 rfl ?_
                          refine r_iload (pc := 144) 5 dX12_years_144 rfl ?_
                          refine r_dV (pc := 146) (As := [_]) mv_X12_lowestYet ml_X12_540 (ct_lowestYet hm a (by omega)) (q_is hm) rfl rfl (Nat.le_of_ble_eq_true rfl) (Nat.le_of_ble_eq_true rfl) (Nat.le_of_ble_eq_true rfl) (Nat.le_of_ble_eq_true rfl) (Nat.le_of_ble_eq_true rfl) dX12_years_146 ?_
                          refine r_dV0 (pc := 149) (As := [_, _]) mv_X12_dieIt ml_X12_456 (ct_dieIt hm (by omega) _) (q_is hm) rfl rfl (Nat.le_of_ble_eq_true rfl) (Nat.le_of_ble_eq_true rfl) (Nat.le_of_ble_eq_true rfl) (Nat.le_of_ble_eq_true rfl) (Nat.le_of_ble_eq_true rfl) dX12_years_149 ?_
                          refine r_iinc (pc := 152) (v := _ + (1)) (lv' := [(0, _), (1, _), (2, _), (3, _), (4, _), (5, _)]) 3 dX12_years_152 rfl rfl (Nat.le_of_ble_eq_true rfl) rfl ?_
                          refine r_iinc (pc := 155) (v := _ + (1)) (lv' := [(0, _), (1, _), (2, _), (3, _), (4, _), (5, _)]) 5 dX12_years_155 rfl rfl (Nat.le_of_ble_eq_true rfl) rfl ?_
                          refine r_goto (pc := 158) (tgt := 89) dX12_years_158 (by decide) ?_
                          rw [nI_1, dieItM_R, hO2.2.1]
                          exact ih2 _ _ (hO2.rw _)
                  · intro ν κ hO
                    have hRa := yrC_Y (fo := fo) hRk nc h6
                    have hx1 := Oy.mx hx hO hRa
                    refine r_iload (pc := 89) 5 dX12_years_89 rfl ?_
                    refine r_aload_n (pc := 91) 0 dX12_years_91 rfl ?_
                    refine q_getR (pc := 92) fl_X12_13 hm (md_f3 hm) dX12_years_92 ?_
                    refine r_iconst (pc := 95) (0) dX12_years_95 rfl ?_
                    refine q_iald (pc := 96) (j := 0) (md_r3 hm) (by decide) rfl (by decide) (by decide) dX12_years_96 ?_
                    refine r_icmp_ge (pc := 97) (tgt := 161) dX12_years_97 (by decide) (fun c_97 => ?_) (fun c_97 => ?_)
                    · refine r_aload_n (pc := 161) 0 dX12_years_161 rfl ?_
                      refine r_callV (pc := 162) (As := []) mv_X12_passIt ml_X12_465 (ct_passIt hm hx1) (q_is hm) rfl rfl (Nat.le_of_ble_eq_true rfl) (Nat.le_of_ble_eq_true rfl) (Nat.le_of_ble_eq_true rfl) (Nat.le_of_ble_eq_true rfl) (Nat.le_of_ble_eq_true rfl) dX12_years_162 (fun r h1 hp => ?_)
                      obtain ⟨ν2, κ2, hS2, rfl, rfl⟩ := hp
                      rw [hO.2.1]
                      show Wp E mX12_years _ _ _ _ [] _ 0 0
                      refine r_iinc (pc := 165) (v := _ + (1)) (lv' := [(0, _), (1, _), (2, _), (3, _), (4, _), (5, _)]) 4 dX12_years_165 rfl rfl (Nat.le_of_ble_eq_true rfl) rfl ?_
                      refine r_goto (pc := 168) (tgt := 68) dX12_years_168 (by decide) ?_
                      rw [nI_1]
                      refine r_sub [0, 1, 2, 3, 4] rfl ?_
                      exact ih _ _ ((hO.sx hS2).rw _)
                    · exact absurd (by rw [hx1.2.2.1]; exact Int32.le_refl _) c_97
                refine r_iconst (pc := 86) (0) dX12_years_86 rfl ?_
                refine r_istore (pc := 87) (lv' := [(0, _), (1, _), (2, _), (3, _), (4, _), (5, _)]) dX12_years_87 (Nat.le_of_ble_eq_true rfl) rfl ?_
                exact cats 0 (by omega) ν κ hO
          · intro ν κ hO
            refine r_iload (pc := 68) 4 dX12_years_68 rfl ?_
            refine r_iload_n (pc := 70) 2 dX12_years_70 rfl ?_
            refine r_icmp_ge (pc := 71) (tgt := 171) dX12_years_71 (by decide) (fun c_71 => ?_) (fun c_71 => ?_)
            · exact over _ ν κ hO
            · exact absurd (Int32.le_refl _) c_71
        refine r_aload_n (pc := 51) 0 dX12_years_51 rfl ?_
        refine r_bipush (pc := 52) (16) dX12_years_52 rfl ?_
        refine r_dV0 (pc := 54) (As := [_]) mv_X12_keepAll ml_X12_174 (ct_keepAll hm 16 (by decide)) (q_is hm) rfl rfl (Nat.le_of_ble_eq_true rfl) (Nat.le_of_ble_eq_true rfl) (Nat.le_of_ble_eq_true rfl) (Nat.le_of_ble_eq_true rfl) (Nat.le_of_ble_eq_true rfl) dX12_years_54 ?_
        refine r_aload_n (pc := 57) 0 dX12_years_57 rfl ?_
        refine r_iload_n (pc := 58) 1 dX12_years_58 rfl ?_
        refine r_i2l (pc := 59) dX12_years_59 ?_
        refine q_putJ (pc := 60) fp_X12_528 hm dX12_years_60 ?_
        refine r_iconst (pc := 63) (0) dX12_years_63 rfl ?_
        refine r_istore_n (pc := 64) (lv' := [(0, _), (1, _), (2, _), (3, _)]) dX12_years_64 (Nat.le_of_ble_eq_true rfl) rfl ?_
        refine r_iconst (pc := 65) (0) dX12_years_65 rfl ?_
        refine r_istore (pc := 66) (lv' := [(0, _), (1, _), (2, _), (3, _), (4, _)]) dX12_years_66 (Nat.le_of_ble_eq_true rfl) rfl ?_
        have hO0 : Oy μ l (keepN (up2 μ 0 0 0) 16 33) (up2 l 0 57 seed.toInt64) t0.1 t0.2.1 := by
          refine ⟨?_, ?_, ?_, fun i hi => ?_⟩
          · refine Ob.tr (?_ : Ob μ l (setR (keepN (up2 μ 0 0 0) 16 33) (μ 2)) l) Ob.J0
            refine ⟨fun o ho => ?_, fun j hj => ?_, fun j hj => ?_, fun _ _ => rfl⟩
            · simp only [List.mem_cons, List.not_mem_nil, or_false] at ho
              by_cases h2 : o = 2
              · rw [h2, setR_2]
              · rw [setR_ne h2]; funext j; unfold keepN; rw [if_neg (by omega), up2_ne (by omega)]
            · rw [setR_ne (by decide)]; unfold keepN; rw [if_neg (by omega), up2_ne (by omega)]
            · simp only [List.mem_cons, List.not_mem_nil, or_false] at hj
              rw [setR_ne (by decide)]; unfold keepN; rw [if_neg (by omega), up2_ne (by omega)]
          · rw [h0r]; funext j; unfold keepN; rw [if_neg (by omega), up2_ne (by omega)]
          · rw [h0s]; exact up2_at
          · unfold keepN; rw [if_pos ⟨rfl, by omega, by omega⟩, up2_ne (by omega), show 528 + i - 33 * 16 = i by omega]
        have hl0 := loop 0 (by omega) _ _ hO0
        rw [show (yrY fo nc t0 0).2.2 = 0 from h0t] at hl0
        exact hl0
      · rw [th_2, hnc] at c_41
        have hn0 : nc = 0 := (nI_eq (by omega) (by decide)).mp (c_41.trans nI_0.symm)
        have e : yearsOK nc seed n = -3 := by rw [yearsOK, if_pos hok, if_pos hn0]
        refine r_aload_n (pc := 44) 0 dX12_years_44 rfl ?_
        refine r_bipush (pc := 45) (-3) dX12_years_45 rfl ?_
        refine r_dV (pc := 47) (As := [_]) mv_X12_tell ml_X12_170 (ct_tell hm _ t_3) (q_is hm) rfl rfl (Nat.le_of_ble_eq_true rfl) (Nat.le_of_ble_eq_true rfl) (Nat.le_of_ble_eq_true rfl) (Nat.le_of_ble_eq_true rfl) (Nat.le_of_ble_eq_true rfl) dX12_years_47 ?_
        refine r_iret (pc := 50) rfl ?_ (Nat.le_of_ble_eq_true rfl) (Nat.le_of_ble_eq_true rfl) dX12_years_50
        exact ⟨_, _, Ob.th, by rw [yearsM, e, if_neg (by decide)], by rw [yearsV, e, if_neg (by decide)]⟩
    · rw [show decide _ = decide (inN n 61 = true ∧ ¬ n = 0) from in_160] at c_26
      exact no (fun z => of_decide_eq_false (bI_0.mp c_26) z.2)
end MODELJ
