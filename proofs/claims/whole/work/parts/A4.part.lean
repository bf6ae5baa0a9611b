/-! the class's reader: a part -/
section PART
variable {E : En} {x n N : Nat} {b : Nat → Int32} {od test : Bool} {wl wo : Nat → Int64}
/-- what reading expressions writes: where it stands, how many parts, code from c on -/
def rdS (x c a k : Nat) : Prop := (a = x + 26 ∧ (k = 6 ∨ k = 7)) ∨ (a = x + 27 ∧ k = 6) ∨ ((a = x + 31 ∨ a = x + 32) ∧ c ≤ k)
theorem csP_rd {c a k : Nat} (hq : csP x a k) : ¬ rdS x c a k := by
  obtain ⟨t, ht, rfl, rfl⟩ := hq
  intro z
  have key : ∀ t ∈ csF, ¬ ((t.1 = 26 ∧ (t.2.1 = 6 ∨ t.2.1 = 7)) ∨ (t.1 = 27 ∧ t.2.1 = 6) ∨ t.1 = 31 ∨ t.1 = 32) := by decide +kernel
  exact key t ht (by unfold rdS at z; omega)
theorem CS.rd {h h1 : Hp} {c : Nat} (hc : CS E h x) (a1 : Fr (rdS x c) h h1) : CS E h1 x := hc.fr a1 (fun _ _ => csP_rd)
theorem rdS_mono {c c' a k : Nat} (hcc : c ≤ c') (hs : rdS x c' a k) : rdS x c a k := by unfold rdS at hs ⊢; omega
def RdH (E : En) (h : Hp) (x : Nat) (b : Nat → Int32) (n N : Nat) (od : Bool) (i lv c : Nat) : Prop := (CS E h x ∧ TokI h x b n N) ∧ (hI h (x + 26) 6 = nI i ∧ i ≤ N) ∧ (hI h (x + 26) 7 = nI lv ∧ lv ≤ 50) ∧ hI h (x + 26) 8 = bI (!od) ∧ hI h (x + 27) 6 = nI c ∧ c ≤ i
def wlw (od : Bool) : Nat := if od = true then 19 else 8
theorem RdH.now {h : Hp} {i lv c i' : Nat} (hr : RdH E h x b n N od i lv c) (h1 : i' ≤ N) (h2 : c ≤ i') : RdH E (wI h (x + 26) 6 (nI i')) x b n N od i' lv c := by
  obtain ⟨⟨hc, ht⟩, -, ⟨h7, h50⟩, h8, h6, -⟩ := hr
  exact ⟨⟨hc, ht.w (Or.inl ⟨rfl, by decide⟩)⟩, ⟨hI_at, h1⟩, ⟨by rw [hI_ne (by omega)]; exact h7, h50⟩, by rw [hI_ne (by omega)]; exact h8, by rw [hI_ne (by omega)]; exact h6, h2⟩
theorem RdH.prt {h : Hp} {i lv c lv' : Nat} (hr : RdH E h x b n N od i lv c) (h1 : lv' ≤ 50) : RdH E (wI h (x + 26) 7 (nI lv')) x b n N od i lv' c := by
  obtain ⟨⟨hc, ht⟩, ⟨hi, hN⟩, -, h8, h6, hci⟩ := hr
  exact ⟨⟨hc, ht.w (Or.inl ⟨rfl, by decide⟩)⟩, ⟨by rw [hI_ne (by omega)]; exact hi, hN⟩, ⟨hI_at, h1⟩, by rw [hI_ne (by omega)]; exact h8, by rw [hI_ne (by omega)]; exact h6, hci⟩
/-- one piece of code more -/
def adH (h : Hp) (x c : Nat) (o w : Int32) : Hp := wI (wI (wI h (x + 27 + 4) c o) (x + 27 + 5) c w) (x + 27) 6 (nI (c + 1))
theorem adH_fr {h : Hp} {c : Nat} {o w : Int32} : Fr (rdS x c) h (adH h x c o w) := ((Fr.wI (by unfold rdS; omega)).tr (Fr.wI (by unfold rdS; omega))).tr (Fr.wI (by unfold rdS; omega))
theorem adH_O {h : Hp} {c : Nat} {o w : Int32} : hI (adH h x c o w) (x + 31) c = o := by unfold adH; rw [hI_ne (by omega), hI_ne (by omega)]; exact hI_at
theorem adH_A {h : Hp} {c : Nat} {o w : Int32} : hI (adH h x c o w) (x + 32) c = w := by unfold adH; rw [hI_ne (by omega)]; exact hI_at
theorem RdH.add {h : Hp} {i lv c : Nat} {o w : Int32} (hr : RdH E h x b n N od i lv c) (h1 : c + 1 ≤ i) : RdH E (adH h x c o w) x b n N od i lv (c + 1) := by
  obtain ⟨⟨hc, ht⟩, ⟨hi, hN⟩, ⟨h7, h50⟩, h8, h6, hci⟩ := hr
  unfold adH
  exact ⟨⟨hc, ((ht.w (Or.inr (by omega))).w (Or.inr (by omega))).w (Or.inr (by omega))⟩, ⟨by rw [hI_ne (by omega), hI_ne (by omega), hI_ne (by omega)]; exact hi, hN⟩, ⟨by rw [hI_ne (by omega), hI_ne (by omega), hI_ne (by omega)]; exact h7, h50⟩, by rw [hI_ne (by omega), hI_ne (by omega), hI_ne (by omega)]; exact h8, hI_at, h1⟩
theorem c6_add {h : Hp} {i lv c : Nat} (hr : RdH E h x b n N od i lv c) (h1 : c + 1 ≤ i) (o w : Int32) : Ct E 0 0 0 mX10_add [.ref (x + 27), .int o, .int w] h (po (some (.int (nI c))) (adH h x c o w)) := c10_add (cs_tx27 hr.1.1) hr.2.2.2.2.1 (by have := hr.2.1.2; have := hr.1.2.2.1; omega) o w
/-- what a method of the reader comes to: it goes on, or it stands where it can't -/
def pRe (E : En) (h : Hp) (x : Nat) (b : Nat → Int32) (n N : Nat) (od : Bool) (i lv c : Nat) (SEM : Nat → Nat → Sm → Prop) (FAIL : Nat → Prop) : Option Value → Hp → Prop := fun v h' => Fr (rdS x c) h h' ∧ ((v = some (.int 1) ∧ ∃ i' lv' c' s, RdH E h' x b n N od i' lv' c' ∧ i < i' ∧ lv < lv' ∧ c < c' ∧ c' + i ≤ i' + c ∧ CSeg (hI h' (x + 31)) (hI h' (x + 32)) (wlw od) c c' (lv' - lv) s ∧ SEM i' lv' s) ∨ (v = some (.int 0) ∧ ∃ j, hI h' (x + 26) 6 = nI j ∧ j ≤ N ∧ FAIL j))
abbrev mcO (b : Nat → Int32) (n : Nat) (od test : Bool) (wl wo : Nat → Int64) : Mcf := (wl, wo, od, tk b n, test)
def ordV (j : Nat) : Nat := [21, 23, 24, 25, 16, 19, 26].getD j 0
def Wls (wl wo : Nat → Int64) : Prop := (∀ u, u < 8 → wl u = lN (vocN (15 + u))) ∧ ∀ u, u < 7 → wo u = lN (vocN (ordV u))
theorem ptN_hit {w : Nat → Int64} {t : Tk} {j : Nat} (hj : tW t (w j) = true) : ∀ K, j < K → (∀ k, j < k → k < K → tW t (w k) = false) → ptN w t K = nI (j + 1)
  | 0, h, _ => by omega
  | K + 1, h, hn => by
    rw [ptN]
    by_cases he : K = j
    · rw [he, if_pos hj]
    · rw [hn K (by omega) (by omega), if_neg (by decide)]
      exact ptN_hit hj K (by omega) (fun k h1 h2 => hn k h1 (by omega))
theorem ptN_no {w : Nat → Int64} {t : Tk} : ∀ K, (∀ k, k < K → tW t (w k) = false) → ptN w t K = -1
  | 0, _ => rfl
  | K + 1, hn => by rw [ptN, hn K (by omega), if_neg (by decide)]; exact ptN_no K (fun k h => hn k (by omega))
theorem ordV_lt : ∀ j, j < 7 → ordV j < 27 := by decide
theorem ordV_inj : ∀ j, j < 7 → ∀ k, k < 7 → ordV j = ordV k → j = k := by decide
theorem poW_ord : ∀ κ, κ < 303 → (poW κ = 99 ↔ ∀ j, j < 7 → ¬ κ = 256 + ordV j) := by decide +kernel
def opP (j : Nat) : Nat := [0, 1, 2, 3, 4, 10, 16].getD j 0
theorem poW_at : ∀ j, j < 7 → poW (256 + ordV j) = opP j := by decide +kernel
theorem tW_f {t : Tk} {w : Int64} (h : ¬ tW t w = true) : tW t w = false := by cases hq : tW t w with | false => rfl | true => exact absurd hq h
theorem prt_law {κ : Nat} {pl v : Int32} {t : Tk} (hk : KR (nI κ) pl v t) (hκ : κ ≤ 302) (hw : Wls wl wo) : (∀ u, u < 8 → κ = 271 + u → ptN wl t 8 = nI (u + 1)) ∧ ((∀ u, u < 8 → ¬ κ = 271 + u) → ptN wl t 8 = -1) := by
  have hq : ∀ u, u < 8 → (tW t (wl u) = true ↔ κ = 271 + u) := fun u hu => by
    rw [hw.1 u hu, ← hk.wd (show 15 + u < 27 by omega)]
    exact ⟨fun z => by have := nI_inj (by omega) (by omega) z; omega, fun z => by rw [z]; congr 1; omega⟩
  refine ⟨fun u hu e => ptN_hit ((hq u hu).mpr e) 8 hu (fun k h1 h2 => tW_f (fun z => ?_)), fun hn => ptN_no 8 (fun k h2 => tW_f (fun z => hn k h2 ((hq k h2).mp z)))⟩
  have := (hq k h2).mp z
  omega
theorem prt_ord {κ : Nat} {pl v : Int32} {t : Tk} (hk : KR (nI κ) pl v t) (hκ : κ ≤ 302) (hw : Wls wl wo) : (∀ j, j < 7 → κ = 256 + ordV j → ptN wo t 7 = nI (j + 1)) ∧ ((∀ j, j < 7 → ¬ κ = 256 + ordV j) → ptN wo t 7 = -1) := by
  have hq : ∀ u, u < 7 → (tW t (wo u) = true ↔ κ = 256 + ordV u) := fun u hu => by
    have := ordV_lt u hu
    rw [hw.2 u hu, ← hk.wd this]
    exact ⟨fun z => nI_inj (by omega) (by omega) z, fun z => by rw [z]⟩
  refine ⟨fun u hu e => ptN_hit ((hq u hu).mpr e) 7 hu (fun k h1 h2 => tW_f (fun z => ?_)), fun hn => ptN_no 7 (fun k h2 => tW_f (fun z => hn k h2 ((hq k h2).mp z)))⟩
  have e2 := (hq k h2).mp z
  have := ordV_inj u hu k h2 (by omega)
  omega
def semP (mc : Mcf) (d i lv : Nat) : Nat → Nat → Sm → Prop := fun i' lv' s => Bd s ∧ ∀ pl, Gos mc (1, i, lv, d, pl, sZ) (3, i', lv', d, pl, s)
def falP (mc : Mcf) (d i lv : Nat) : Nat → Prop := fun j => ∀ pl, Fls mc (1, i, lv, d, pl, sZ) j
theorem Bd.leaf {s : Sm} (hs : ∀ e, ∃ j, s e = some (e j)) : Bd s := fun e he v hv => by
  obtain ⟨j, hj⟩ := hs e
  rw [hj] at hv
  have e1 : e j = v := Option.some.inj hv
  obtain ⟨w, hw⟩ := he j
  rw [← e1, hw, Int32.toInt_toInt64]
  have h1 := w.le_toInt
  have h2 := w.toInt_lt
  exact ⟨by omega, by omega⟩
theorem Bd.num {s : Sm} {m : Nat} (hm : m ≤ 1000) (hs : ∀ e, s e = some (nI m).toInt64) : Bd s := fun e _ v hv => by
  rw [hs e] at hv
  have e1 : (nI m).toInt64 = v := Option.some.inj hv
  rw [← e1, Int32.toInt_toInt64, nI_toInt (by omega)]
  exact ⟨by omega, by omega⟩
end PART
