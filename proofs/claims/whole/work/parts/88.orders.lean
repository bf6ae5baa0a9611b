/-! the class: orders are run -/
section ORDERS
variable {E : En} {h : Hp} {x : Nat} {μ : Mu}
/-- the text that was read, as orders -/
def OdC (h : Hp) (t sz q : Nat) (d : Od) : Prop := ∃ hd a0 a1 a2 a3 : Nat, (hd < 4 ∧ d.1 = nI hd ∧ hI h (t + 1) q = nI hd ∧ hI h (t + 2) q = nI d.2.1 ∧ d.2.1 ≤ 20) ∧ (hI h (t + 3) (3 * q) = nI a0 ∧ hI h (t + 3) (3 * q + 1) = nI a1 ∧ hI h (t + 3) (3 * q + 2) = nI a2 ∧ hI h (t + 3) (3 * q + 3) = nI a3) ∧ (a0 ≤ a1 ∧ a1 ≤ a2 ∧ a2 ≤ a3 ∧ a3 ≤ sz) ∧ (if hd = 3 then a0 = a1 ∧ a1 = a2 else (∃ lf, lf ≤ 50 ∧ CSeg (hI h (t + 4)) (hI h (t + 5)) 19 a0 a1 lf d.2.2.2.1 ∧ Bd d.2.2.2.1) ∧ ∃ lf, lf ≤ 50 ∧ CSeg (hI h (t + 4)) (hI h (t + 5)) 19 a1 a2 lf d.2.2.2.2 ∧ Bd d.2.2.2.2) ∧ (match d.2.2.1 with | none => a2 = a3 | some s => ∃ lf, lf ≤ 50 ∧ CSeg (hI h (t + 4)) (hI h (t + 5)) 19 a2 a3 lf s ∧ IsT s)
def OdT (h : Hp) (t : Nat) (ds : List Od) : Prop := hI h t 0 = nI ds.length ∧ ds.length ≤ 12 ∧ ∃ sz, sz ≤ 400 ∧ hI h t 6 = nI sz ∧ ∀ q d, ds[q]? = some d → OdC h t sz q d
theorem OdT.cg {h1 : Hp} {t : Nat} {ds : List Od} (hl : OdT h t ds) (e : ∀ i, i ≤ 5 → hI h1 (t + i) = hI h (t + i)) : OdT h1 t ds := by
  have e0 : hI h1 t = hI h t := e 0 (by omega)
  unfold OdT OdC at hl ⊢
  rw [e0, e 1 (by omega), e 2 (by omega), e 3 (by omega), e 4 (by omega), e 5 (by omega)]
  exact hl
theorem OdT.fr {S : Nat → Nat → Prop} {h1 : Hp} {t : Nat} {ds : List Od} (hl : OdT h t ds) (a1 : Fr S h h1) (q : ∀ i k, i ≤ 5 → ¬ S (t + i) k) : OdT h1 t ds := hl.cg (fun i hi => by funext k; exact a1.I (q i k hi))
/-- a piece of a text reckoned -/
theorem ck_pc (hc : CS E h x) {t nn at0 a b sz wl aw : Nat} {ci pi : Int32} (ht : x + 2 < t) (htx : txS E h t nn) (hnn : nn ≤ 400) (hat : ci * 3 + pi = nI at0) (h37 : at0 + 1 < 37) (ea : hI h (t + 3) at0 = nI a) (eb : hI h (t + 3) (at0 + 1) = nI b) (es : hI h t 6 = nI sz) (hbs : b ≤ sz) (hsz : sz ≤ nn) (hab : a ≤ b) (haw : x + 2 < aw) (hR : isR E h aw 13 wl) (hwl : wl < 2 ^ 31) {v : Int64} (hv : (a = b ∧ v = 1) ∨ ∃ (s : Sm) (lf : Nat) (e : Nat → Int64), lf ≤ 50 ∧ CSeg (hI h (t + 4)) (hI h (t + 5)) wl a b lf s ∧ (∀ j, j < wl → e j = (hI h aw j).toInt64) ∧ v = cVal (s e)) : Ct E 1 0 0 mX7_reckon [.ref (x + 1), .ref t, .int ci, .int pi, .ref aw] h (pRk h x v) := by
  rcases hv with ⟨hab2, rfl⟩ | ⟨s, lf, e, hlf, hseg, hwd, rfl⟩
  · have hr0 : cRun (hI h (t + 4)) (hI h (t + 5)) (hI h aw) wl b 0 a 0 (hJ h (x + 2)) = some (false, 0, hJ h (x + 2)) := by rw [cRun, if_neg (by omega)]
    exact c7_run hc ht haw htx (by omega) hR hwl hat h37 ea eb es hbs hsz hab hr0
  · obtain ⟨N, bk, n', f', hr0, hval⟩ := CSeg_run hseg hlf hwd (hJ h (x + 2))
    have h1 := c7_run hc ht haw htx (by omega) hR hwl hat h37 ea eb es hbs hsz hab hr0
    rw [hval] at h1
    exact h1
/-- what running orders writes -/
def orS (x a k : Nat) : Prop := acS x a k ∨ a = x + 89 ∨ (a = x + 88 ∧ (k = 3 ∨ k = 4))
theorem csP_or {a k : Nat} (hq : csP x a k) : ¬ orS x a k := by
  intro z
  rcases z with z | z
  · exact csP_ac hq z
  · obtain ⟨t, ht, rfl, rfl⟩ := hq
    have key : ∀ t ∈ csF, ¬ (t.1 = 89 ∨ (t.1 = 88 ∧ (t.2.1 = 3 ∨ t.2.1 = 4))) := by decide +kernel
    exact key t ht (by omega)
theorem CS.orr {h1 : Hp} (hc : CS E h x) (a1 : Fr (orS x) h h1) : CS E h1 x := hc.fr a1 (fun _ _ => csP_or)
theorem orS_far {a k : Nat} (ha : x + 89 < a) : ¬ orS x a k := by unfold orS acS akS ptW psW; omega
theorem orS_27 {i k : Nat} (hi : i ≤ 5) : ¬ orS x (x + 27 + i) k := by unfold orS acS akS ptW psW; omega
theorem rkH_fr (n : Nat) (f : Nat → Int64) : Fr (orS x) h (rkH h x n f) := Fr.tr (Fr.wRowJ (fun k => by unfold orS acS akS; omega)) (Fr.wI (by unfold orS acS akS; omega))
theorem rkH_I {n : Nat} {f : Nat → Int64} {a : Nat} (ha : a ≠ x + 1) : hI (rkH h x n f) a = hI h a := up2_other ha
theorem ifV_okO {s : Option Sm} {e : Nat → Int64} (hT : ∀ z, s = some z → IsT z) : ifV s e = 1 ↔ ifO s e = true := by
  cases s with
  | none => exact ⟨fun _ => rfl, fun _ => rfl⟩
  | some s =>
    unfold ifV ifO
    cases hs : s e with
    | none => simp only [hs]; exact ⟨fun z => absurd z (by decide), fun z => by cases z⟩
    | some v =>
      simp only [hs]
      rcases hT s rfl e v hs with rfl | rfl
      · exact ⟨fun z => absurd z (by decide), fun z => absurd z (show ¬ (0 : Int32) ≤ -3 by decide)⟩
      · exact ⟨fun _ => by decide, fun _ => rfl⟩
theorem PtV.or0 {h1 : Hp} {r : Nat → Int32} (hv : PtV h (x + 3) r) (a1 : Fr (fun a k => rkS x a k ∨ a = x + 89 ∨ (a = x + 88 ∧ (k = 3 ∨ k = 4))) h h1) : PtV h1 (x + 3) r := hv.fr a1 (fun i k hi => by unfold rkS; omega)
/-- all that orders ask for, by the reference's memory -/
def Lo (E : En) (h : Hp) (x : Nat) (μ : Mu) (nc ns nl : Nat) (lw : Option Nat) (fo : Option (List Cl)) : Prop := Lv E h x (μ 2) nc ns nl lw fo ∧ PsM h (x + 40) μ ∧ hI h (x + 88) 3 = μ 0 53 ∧ hI h (x + 88) 4 = μ 0 54
def scS (x a k : Nat) : Prop := rkS x a k ∨ a = x + 89
theorem scS_or {a k : Nat} (hs : scS x a k) : orS x a k := by unfold scS rkS at hs; unfold orS acS akS; omega
theorem Lv.sc {h1 : Hp} {r : Nat → Int32} {nc ns nl : Nat} {lw : Option Nat} {fo : Option (List Cl)} (hL : Lv E h x r nc ns nl lw fo) (f : Fr (scS x) h h1) : Lv E h1 x r nc ns nl lw fo := by
  obtain ⟨hc, hv, hrw, h3, hlw, hfo⟩ := hL
  refine ⟨hc.orr (f.mono (fun _ _ => scS_or)), hv.fr f (fun i k hi => by unfold scS rkS; omega), hrw, h3, ⟨fun z => by rw [f.R (by unfold scS rkS; omega)]; exact hlw.1 z, hlw.2⟩, hfo.far f (fun a k ha => by unfold scS rkS; omega)⟩
theorem Lo.sc {h1 : Hp} {nc ns nl : Nat} {lw : Option Nat} {fo : Option (List Cl)} (hL : Lo E h x μ nc ns nl lw fo) (f : Fr (scS x) h h1) : Lo E h1 x μ nc ns nl lw fo := by
  obtain ⟨hL, ⟨nw, hps⟩, h53, h54⟩ := hL
  refine ⟨hL.sc f, ⟨nw, hps.fr f (by unfold scS rkS; omega) (by unfold scS rkS; omega) (fun i k h1 h2 => by unfold scS rkS; omega)⟩, (f.I (by unfold scS rkS; omega)).trans h53, (f.I (by unfold scS rkS; omega)).trans h54⟩
/-- behind an act -/
theorem Lv.ac {h1 : Hp} {r r' : Nat → Int32} {nc ns nl : Nat} {lw : Option Nat} {fo : Option (List Cl)} (hL : Lv E h x r nc ns nl lw fo) (f : Fr (acS x) h h1) (hv : PtV h1 (x + 3) r') (hrw : RwOK r' nc ns) (h3 : r' 3 = r 3) (h4 : r' 4 = r 4) : Lv E h1 x r' nc ns nl lw fo := by
  obtain ⟨hc, -, -, ⟨g3, g6⟩, hlw, hfo⟩ := hL
  refine ⟨hc.ac f, hv, hrw, ⟨h3.trans g3, g6⟩, ?_, hfo.far f (fun a k ha => by unfold acS akS ptW psW; omega)⟩
  unfold LwA
  rw [h4]
  exact ⟨fun z => by rw [f.R (by unfold acS akS ptW psW; omega)]; exact hlw.1 z, hlw.2⟩
theorem actR_lo {r : Nat → Int32} {fo : Option (List Cl)} {nc ns k : Nat} (h6 : nc ≤ 6) (hk : k < 4) {a b : Int32} (hv : 0 ≤ actV r fo nc ns (nI k) a b) {j : Nat} (hj : j < 5 ∨ 38 ≤ j ∨ j = 6 ∨ j = 7) : actR r fo nc (nI k) a b j = r j := by
  rcases (by omega : k = 0 ∨ k = 1 ∨ k = 2 ∨ k = 3) with rfl | rfl | rfl | rfl
  · have hv2 : 0 ≤ signV r fo nc ns a b := hv
    have := sign_c h6 hv2
    exact va_up_ne _ _ (by omega)
  · have hv2 : 0 ≤ dieV r nc a b := hv
    have := die_c h6 hv2
    show dieR r a.toNatClampNeg b j = r j
    rw [dieR_eq, va_up_ne _ _ (by omega), va_up_ne _ _ (by omega), va_up_ne _ _ (by omega)]
  · have hv2 : 0 ≤ clipV r nc a b := hv
    have := (clip_c h6 hv2).1
    exact va_up_ne _ _ (by omega)
  · show passR r fo nc j = r j
    unfold passR
    rw [va_up_ne _ _ (by omega)]
    exact passK_lo (by omega)
def okO (d : Od) (fo : Option (List Cl)) (nc ns : Nat) (μ : Mu) : Bool := decide (0 ≤ (ordF d fo nc ns μ).1)
def pRo (E : En) (h : Hp) (x : Nat) (nc ns nl : Nat) (lw : Option Nat) (fo : Option (List Cl)) (w : Int32 × Mu) : Option Value → Hp → Prop := fun v h' => v = some (.int (bI (decide (0 ≤ w.1)))) ∧ Fr (orS x) h h' ∧ (0 ≤ w.1 → Lo E h' x w.2 nc ns nl lw fo)
theorem actV_3 {r : Nat → Int32} {fo : Option (List Cl)} {nc ns : Nat} (a b : Int32) : actV r fo nc ns 3 a b = passV r := by
  unfold actV; rw [if_neg (by decide), if_neg (by decide), if_neg (by decide)]
theorem actM_3 {fo : Option (List Cl)} {nc ns : Nat} (a b : Int32) : actM μ fo nc ns 3 a b = if μ 2 5 = 999 then μ else setR (remM μ (uF μ) 3) (passR (μ 2) fo nc) := by
  unfold actM; rw [if_neg (by decide), if_neg (by decide), if_neg (by decide)]
theorem c3_ranOnce {nc ns nl q : Nat} {lw : Option Nat} {fo : Option (List Cl)} {ds : List Od} {d : Od} (hL : Lo E h x μ nc ns nl lw fo) (ht : OdT h (x + 27) ds) (hq : ds[q]? = some d) : Ct E 6 0 0 mX3_ranOnce [.ref (x + 88), .ref (x + 27), .int (nI q)] h (pRo E h x nc ns nl lw fo (ordF d fo nc ns μ)) := by
  have hL0 := hL
  obtain ⟨⟨hc, hv, hrw, -, -, -⟩, -, h53, h54⟩ := hL
  obtain ⟨hlen, h12, sz, hsz, es, hcl⟩ := id ht
  obtain ⟨hd, a0, a1, a2, a3, ⟨g1, g2, g3, g4, g5⟩, ⟨e0, e1, e2, e3⟩, ⟨l1, l2, l3, l4⟩, hsum, hif⟩ := hcl q d hq
  have hq12 : q < 12 := by
    rcases Nat.lt_or_ge q ds.length with z | z
    · omega
    · rw [List.getElem?_eq_none z] at hq; cases hq
  have hat : ∀ i : Nat, nI q * 3 + nI i = nI (3 * q + i) := fun i => by rw [show (3 : Int32) = nI 3 from rfl, nI_mul, nI_add, Nat.mul_comm]
  refine Ct.of (by decide +kernel) (Nat.le_of_ble_eq_true rfl) ?_
  refine r_aload_n (pc := 0) 0 dX3_ranOnce_0 rfl ?_
  refine r_aload_n (pc := 1) 0 dX3_ranOnce_1 rfl ?_
  refine r_getR (pc := 2) fl_X3_9 (ca_88 hc) (cf_88_0 hc) dX3_ranOnce_2 ?_
  refine r_getR (pc := 5) fl_X3_53 (ca_39 hc) (cf_39_0 hc) dX3_ranOnce_5 ?_
  refine r_callV (pc := 8) (As := [_]) mv_X3_tellWords ml_X3_57 (c3_tellWords hc hv hrw.1 hrw.2.1 hrw.2.2.1 hrw.2.2.2.1 h53 h54) (ca_88 hc) rfl rfl (Nat.le_of_ble_eq_true rfl) (Nat.le_of_ble_eq_true rfl) (Nat.le_of_ble_eq_true rfl) (Nat.le_of_ble_eq_true rfl) (Nat.le_of_ble_eq_true rfl) dX3_ranOnce_8 (fun r h2 hp => ?_)
  obtain ⟨rfl, f, rfl, hf⟩ := hp
  show Wp E mX3_ranOnce _ _ _ _ [] _ 0 0
  have fr2 : Fr (scS x) h (wRow h (x + 89) f) := Fr.wRow (fun _ => Or.inr rfl)
  generalize hh2 : wRow h (x + 89) f = h2
  have ew : ∀ j, j < 19 → ordE (μ 2) (μ 0 53) (μ 0 54) nc ns j = (hI h2 (x + 89) j).toInt64 := by
    intro j hj
    rw [owF_E, ← hf j hj, ← hh2, wRow_at]
  have et : ∀ i, i ≤ 5 → hI h2 (x + 27 + i) = hI h (x + 27 + i) := fun i hi => by rw [← hh2]; exact wRow_ne (by omega)
  rw [hh2] at fr2
  clear hh2 hf
  generalize hE0 : ordE (μ 2) (μ 0 53) (μ 0 54) nc ns = e at ew
  have heb : ∀ j, ∃ z : Int32, e j = z.toInt64 := fun j => ⟨_, by rw [← hE0]; exact owF_E j⟩
  -- a reckoning at any heap from here on
  have rk : ∀ (hh : Hp), Fr (scS x) h hh → (∀ i, i ≤ 5 → hI hh (x + 27 + i) = hI h (x + 27 + i)) → hI hh (x + 89) = hI h2 (x + 89) → ∀ (i a b : Nat), i < 3 → hI h (x + 27 + 3) (3 * q + i) = nI a → hI h (x + 27 + 3) (3 * q + i + 1) = nI b → a ≤ b → b ≤ sz → ∀ v : Int64, ((a = b ∧ v = 1) ∨ ∃ (s : Sm) (lf : Nat), lf ≤ 50 ∧ CSeg (hI h (x + 27 + 4)) (hI h (x + 27 + 5)) 19 a b lf s ∧ v = cVal (s e)) → Ct E 1 0 0 mX7_reckon [.ref (x + 1), .ref (x + 27), .int (nI q), .int (nI i), .ref (x + 89)] hh (pRk hh x v) := by
    intro hh fr ei ew2 i a b hi ea eb hab hbs v hvv
    have hch := hc.orr (fr.mono (fun _ _ => scS_or))
    have e3 := ei 3 (by omega)
    have e6 := ei 0 (by omega)
    refine ck_pc hch (by omega) (cs_tx27 hch) (Nat.le_refl _) (hat i) (by omega) (by rw [e3]; exact ea) (by rw [e3]; exact eb) (by rw [show hI hh (x + 27) = hI h (x + 27) from e6]; exact es) hbs hsz hab (by omega) (cr_89 hch) (by decide) ?_
    rcases hvv with z | ⟨s, lf, z1, z2, z3⟩
    · exact Or.inl z
    · refine Or.inr ⟨s, lf, e, z1, ?_, fun j hj => by rw [ew2]; exact ew j hj, z3⟩
      rw [ei 4 (by omega), ei 5 (by omega)]; exact z2
  have ww : ∀ (hh : Hp) (n : Nat) (g : Nat → Int64), Fr (scS x) h hh → (∀ i, i ≤ 5 → hI hh (x + 27 + i) = hI h (x + 27 + i)) → hI hh (x + 89) = hI h2 (x + 89) → Fr (scS x) h (rkH hh x n g) ∧ (∀ i, i ≤ 5 → hI (rkH hh x n g) (x + 27 + i) = hI h (x + 27 + i)) ∧ hI (rkH hh x n g) (x + 89) = hI h2 (x + 89) := by
    intro hh n g fr ei ew2
    refine ⟨fr.tr (Fr.tr (Fr.wRowJ (fun k => by unfold scS rkS; omega)) (Fr.wI (by unfold scS rkS; omega))), fun i hi => ?_, ?_⟩
    · rw [rkH_I (by omega)]; exact ei i hi
    · rw [rkH_I (by omega)]; exact ew2
  have hTs : ∀ z, d.2.2.1 = some z → IsT z := by
    intro z hz
    rw [hz] at hif
    obtain ⟨_, _, _, w⟩ := hif
    exact w
  have hc2 := hc.orr (fr2.mono (fun _ _ => scS_or))
  have hrk2 := rk h2 fr2 et rfl 2 a2 a3 (by decide) e2 e3 l3 l4 (ifV d.2.2.1 e) (by
    cases hz : d.2.2.1 with
    | none => rw [hz] at hif; exact Or.inl ⟨hif, rfl⟩
    | some s => rw [hz] at hif; obtain ⟨lf, z1, z2, z3⟩ := hif; exact Or.inr ⟨s, lf, z1, z2, rfl⟩)
  refine r_aload_n (pc := 11) 0 dX3_ranOnce_11 rfl ?_
  refine r_getR (pc := 12) fl_X3_15 (ca_88 hc2) (cf_88_1 hc2) dX3_ranOnce_12 ?_
  refine r_aload_n (pc := 15) 1 dX3_ranOnce_15 rfl ?_
  refine r_iload_n (pc := 16) 2 dX3_ranOnce_16 rfl ?_
  refine r_iconst (pc := 17) (2) dX3_ranOnce_17 rfl ?_
  refine r_aload_n (pc := 18) 0 dX3_ranOnce_18 rfl ?_
  refine r_getR (pc := 19) fl_X3_19 (ca_88 hc2) (cf_88_2 hc2) dX3_ranOnce_19 ?_
  refine r_callV (pc := 22) (As := [_, _, _, _]) mv_X7_reckon ml_X3_61 (hrk2) (ca_1 hc2) rfl rfl (Nat.le_of_ble_eq_true rfl) (Nat.le_of_ble_eq_true rfl) (Nat.le_of_ble_eq_true rfl) (Nat.le_of_ble_eq_true rfl) (Nat.le_of_ble_eq_true rfl) dX3_ranOnce_22 (fun r h3 hp => ?_)
  obtain ⟨rfl, n1, f1, rfl⟩ := hp
  show Wp E mX3_ranOnce _ _ _ _ [.long _] _ 0 0
  obtain ⟨fr3, et3, ew3⟩ := ww h2 n1 f1 fr2 et rfl
  have hc3 := hc.orr (fr3.mono (fun _ _ => scS_or))
  have hL3 := hL0.sc fr3
  generalize rkH h2 x n1 f1 = h3 at fr3 et3 ew3 hc3 hL3 ⊢
  have hEo : ordF d fo nc ns μ = if ifO d.2.2.1 e = true then
    (if d.1 = 3 then runA d fo nc ns μ (-1) (-1) else match d.2.2.2.1 e with
      | none => (-3, μ)
      | some x => match d.2.2.2.2 e with
        | none => (-3, μ)
        | some y => runA d fo nc ns μ x.toInt32 y.toInt32)
  else (0, μ) := by rw [← hE0]; rfl
  refine r_lconst (pc := 25) (1) dX3_ranOnce_25 rfl ?_
  refine r_lcmp_eq (pc := 26) (tgt := 32) dX3_ranOnce_26 dX3_ranOnce_27 (by decide) (fun c_26 => ?_) (fun c_26 => ?_)
  · have hok : ifO d.2.2.1 e = true := (ifV_okO hTs).mp c_26
    rw [if_pos hok] at hEo
    -- both sums
    have s1 : ∃ v : Int64, ((a0 = a1 ∧ v = 1) ∨ ∃ (s : Sm) (lf : Nat), lf ≤ 50 ∧ CSeg (hI h (x + 27 + 4)) (hI h (x + 27 + 5)) 19 a0 a1 lf s ∧ v = cVal (s e)) ∧ (hd = 3 → v = 1) ∧ (¬ hd = 3 → v = cVal (d.2.2.2.1 e) ∧ Bd d.2.2.2.1) := by
      by_cases h3 : hd = 3
      · rw [if_pos h3] at hsum; exact ⟨1, Or.inl ⟨hsum.1, rfl⟩, fun _ => rfl, fun z => absurd h3 z⟩
      · rw [if_neg h3] at hsum; obtain ⟨⟨lf, z1, z2, z3⟩, -⟩ := hsum; exact ⟨_, Or.inr ⟨_, lf, z1, z2, rfl⟩, fun z => absurd z h3, fun _ => ⟨rfl, z3⟩⟩
    have s2 : ∃ v : Int64, ((a1 = a2 ∧ v = 1) ∨ ∃ (s : Sm) (lf : Nat), lf ≤ 50 ∧ CSeg (hI h (x + 27 + 4)) (hI h (x + 27 + 5)) 19 a1 a2 lf s ∧ v = cVal (s e)) ∧ (hd = 3 → v = 1) ∧ (¬ hd = 3 → v = cVal (d.2.2.2.2 e) ∧ Bd d.2.2.2.2) := by
      by_cases h3 : hd = 3
      · rw [if_pos h3] at hsum; exact ⟨1, Or.inl ⟨hsum.2, rfl⟩, fun _ => rfl, fun z => absurd h3 z⟩
      · rw [if_neg h3] at hsum; obtain ⟨-, lf, z1, z2, z3⟩ := hsum; exact ⟨_, Or.inr ⟨_, lf, z1, z2, rfl⟩, fun z => absurd z h3, fun _ => ⟨rfl, z3⟩⟩
    obtain ⟨v1, hv1a, hv1b, hv1c⟩ := s1
    obtain ⟨v2, hv2a, hv2b, hv2c⟩ := s2
    have hrk3 := rk h3 fr3 et3 ew3 0 a0 a1 (by decide) e0 e1 l1 (by omega) v1 hv1a
    refine r_aload_n (pc := 32) 0 dX3_ranOnce_32 rfl ?_
    refine r_getR (pc := 33) fl_X3_15 (ca_88 hc3) (cf_88_1 hc3) dX3_ranOnce_33 ?_
    refine r_aload_n (pc := 36) 1 dX3_ranOnce_36 rfl ?_
    refine r_iload_n (pc := 37) 2 dX3_ranOnce_37 rfl ?_
    refine r_iconst (pc := 38) (0) dX3_ranOnce_38 rfl ?_
    refine r_aload_n (pc := 39) 0 dX3_ranOnce_39 rfl ?_
    refine r_getR (pc := 40) fl_X3_19 (ca_88 hc3) (cf_88_2 hc3) dX3_ranOnce_40 ?_
    refine r_callV (pc := 43) (As := [_, _, _, _]) mv_X7_reckon ml_X3_61 (hrk3) (ca_1 hc3) rfl rfl (Nat.le_of_ble_eq_true rfl) (Nat.le_of_ble_eq_true rfl) (Nat.le_of_ble_eq_true rfl) (Nat.le_of_ble_eq_true rfl) (Nat.le_of_ble_eq_true rfl) dX3_ranOnce_43 (fun r h4 hp => ?_)
    obtain ⟨rfl, n2, f2, rfl⟩ := hp
    show Wp E mX3_ranOnce _ _ _ _ [.long _] _ 0 0
    obtain ⟨fr4, et4, ew4⟩ := ww h3 n2 f2 fr3 et3 ew3
    have hc4 := hc.orr (fr4.mono (fun _ _ => scS_or))
    generalize rkH h3 x n2 f2 = h4 at fr4 et4 ew4 hc4 ⊢
    have hrk4 := rk h4 fr4 et4 ew4 1 a1 a2 (by decide) e1 e2 l2 (by omega) v2 hv2a
    refine r_lstore_n (pc := 46) (lv' := [(0, _), (1, _), (2, _), (3, _)]) dX3_ranOnce_46 (Nat.le_of_ble_eq_true rfl) rfl ?_
    refine r_aload_n (pc := 47) 0 dX3_ranOnce_47 rfl ?_
    refine r_getR (pc := 48) fl_X3_15 (ca_88 hc4) (cf_88_1 hc4) dX3_ranOnce_48 ?_
    refine r_aload_n (pc := 51) 1 dX3_ranOnce_51 rfl ?_
    refine r_iload_n (pc := 52) 2 dX3_ranOnce_52 rfl ?_
    refine r_iconst (pc := 53) (1) dX3_ranOnce_53 rfl ?_
    refine r_aload_n (pc := 54) 0 dX3_ranOnce_54 rfl ?_
    refine r_getR (pc := 55) fl_X3_19 (ca_88 hc4) (cf_88_2 hc4) dX3_ranOnce_55 ?_
    refine r_callV (pc := 58) (As := [_, _, _, _]) mv_X7_reckon ml_X3_61 (hrk4) (ca_1 hc4) rfl rfl (Nat.le_of_ble_eq_true rfl) (Nat.le_of_ble_eq_true rfl) (Nat.le_of_ble_eq_true rfl) (Nat.le_of_ble_eq_true rfl) (Nat.le_of_ble_eq_true rfl) dX3_ranOnce_58 (fun r h5 hp => ?_)
    obtain ⟨rfl, n3, f3, rfl⟩ := hp
    show Wp E mX3_ranOnce _ _ _ _ [.long _] _ 0 0
    obtain ⟨fr5, et5, ew5⟩ := ww h4 n3 f3 fr4 et4 ew4
    have hc5 := hc.orr (fr5.mono (fun _ _ => scS_or))
    have hL5 := hL0.sc fr5
    generalize rkH h4 x n3 f3 = h5 at fr5 et5 ew5 hc5 hL5 ⊢
    have hbad : ((¬ hd = 3) ∧ (d.2.2.2.1 e = none ∨ d.2.2.2.2 e = none)) → Wp E mX3_ranOnce (Rm 6 0 0) (Qm E (pRo E h x nc ns nl lw fo (ordF d fo nc ns μ)) 0 0) 80 [(0, .ref (x + 88)), (1, .ref (x + 27)), (2, .int (nI q)), (3, .long v1), (5, .long v2)] [] h5 0 0 := by
      intro hz
      have e9 : ordF d fo nc ns μ = (-3, μ) := by
        rw [hEo, if_neg (fun z => hz.1 (by rw [g2] at z; exact nI_inj (by omega) (by decide) z))]
        cases hs1 : d.2.2.2.1 e with
        | none => rfl
        | some v =>
          cases hs2 : d.2.2.2.2 e with
          | none => rfl
          | some w => rcases hz.2 with z | z
                      · rw [hs1] at z; cases z
                      · rw [hs2] at z; cases z
      rw [e9]
      refine r_iconst (pc := 80) (0) dX3_ranOnce_80 rfl ?_
      refine r_zret (pc := 81) rfl (by decide) ?_ (Nat.le_of_ble_eq_true rfl) (Nat.le_of_ble_eq_true rfl) dX3_ranOnce_81
      exact ⟨rfl, fr5.mono (fun _ _ => scS_or), fun z => absurd z (show ¬ (0 : Int32) ≤ -3 by decide)⟩
    -- the act itself
    have hgood : (hd = 3 ∨ ∃ z1 z2, d.2.2.2.1 e = some z1 ∧ d.2.2.2.2 e = some z2) → Wp E mX3_ranOnce (Rm 6 0 0) (Qm E (pRo E h x nc ns nl lw fo (ordF d fo nc ns μ)) 0 0) 82 [(0, .ref (x + 88)), (1, .ref (x + 27)), (2, .int (nI q)), (3, .long v1), (5, .long v2)] [] h5 0 0 := by
      intro hz
      have eA : ∃ A B : Int32, ordF d fo nc ns μ = runA d fo nc ns μ A B ∧ (actV (μ 2) fo nc ns d.1 v1.toInt32 v2.toInt32 = actV (μ 2) fo nc ns d.1 A B ∧ actM μ fo nc ns d.1 v1.toInt32 v2.toInt32 = actM μ fo nc ns d.1 A B) := by
        by_cases h3 : hd = 3
        · have ed : d.1 = 3 := by rw [g2, h3]; rfl
          refine ⟨-1, -1, by rw [hEo, if_pos ed], ?_⟩
          rw [ed]
          exact ⟨(actV_3 _ _).trans (actV_3 _ _).symm, (actM_3 _ _).trans (actM_3 _ _).symm⟩
        · rcases hz with z | ⟨z1, z2, q1, q2⟩
          · exact absurd z h3
          · refine ⟨z1.toInt32, z2.toInt32, ?_, ?_⟩
            · rw [hEo, if_neg (fun z => h3 (by rw [g2] at z; exact nI_inj (by omega) (by decide) z)), q1, q2]
            · rw [(hv1c h3).1, (hv2c h3).1, q1, q2]; exact ⟨rfl, rfl⟩
      obtain ⟨A, B, eO, eV, eM⟩ := eA
      rw [g2] at eV eM
      have hkd : hI h5 (x + 27 + 1) q = nI hd := by rw [et5 1 (by omega)]; exact g3
      refine r_aload_n (pc := 82) 1 dX3_ranOnce_82 rfl ?_
      refine r_getR (pc := 83) fl_X3_69 (tx_is (cs_tx27 hc5)) (tx_f1 (cs_tx27 hc5)) dX3_ranOnce_83 ?_
      refine r_iload_n (pc := 86) 2 dX3_ranOnce_86 rfl ?_
      refine r_iald (pc := 87) (j := q) (tx_r1 (cs_tx27 hc5)) rfl (by omega) (by decide) dX3_ranOnce_87 ?_
      rw [hkd]
      refine r_istore (pc := 88) (lv' := [(0, _), (1, _), (2, _), (3, _), (5, _), (7, _)]) dX3_ranOnce_88 (Nat.le_of_ble_eq_true rfl) rfl ?_
      refine r_aload_n (pc := 90) 0 dX3_ranOnce_90 rfl ?_
      refine r_getR (pc := 91) fl_X3_9 (ca_88 hc5) (cf_88_0 hc5) dX3_ranOnce_91 ?_
      refine r_iload (pc := 94) 5 dX3_ranOnce_94 rfl ?_
      refine r_lload_n (pc := 96) 3 dX3_ranOnce_96 rfl ?_
      refine r_l2i (pc := 97) dX3_ranOnce_97 ?_
      refine r_lload (pc := 98) 4 dX3_ranOnce_98 rfl ?_
      refine r_l2i (pc := 100) dX3_ranOnce_100 ?_
      refine r_callV (pc := 101) (As := [_, _, _]) mv_X1_act ml_X3_72 (c1_actM hL5.1 hL5.2.1 g1 v1.toInt32 v2.toInt32) (ca_39 hc5) rfl rfl (Nat.le_of_ble_eq_true rfl) (Nat.le_of_ble_eq_true rfl) (Nat.le_of_ble_eq_true rfl) (Nat.le_of_ble_eq_true rfl) (Nat.le_of_ble_eq_true rfl) dX3_ranOnce_101 (fun r h6 hp => ?_)
      obtain ⟨rfl, f6, hv6, hps6⟩ := hp
      show Wp E mX3_ranOnce _ _ _ _ [.int _] _ 0 0
      rw [eM] at hv6 hps6
      rw [eV]
      have fr6 : Fr (orS x) h h6 := (fr5.mono (fun _ _ => scS_or)).tr (f6.mono (fun a k z => (Or.inl z : orS x a k)))
      have hc6 := hc5.ac f6
      rw [eO]
      unfold runA
      rw [g2]
      refine r_istore (pc := 104) (lv' := [(0, _), (1, _), (2, _), (3, _), (5, _), (7, _), (8, _)]) dX3_ranOnce_104 (Nat.le_of_ble_eq_true rfl) rfl ?_
      refine r_iload (pc := 106) 6 dX3_ranOnce_106 rfl ?_
      refine r_if_ge (pc := 108) (tgt := 113) dX3_ranOnce_108 (by decide) (fun c_108 => ?_) (fun c_108 => ?_)
      · have hpos : 0 ≤ actV (μ 2) fo nc ns (nI hd) A B := c_108
        have hneg : ¬ actV (μ 2) fo nc ns (nI hd) A B < 0 := fun z => absurd (Int32.lt_of_le_of_lt hpos z) Int32.lt_irrefl
        rw [if_neg hneg]
        have h16 := hL5.2.1.choose_spec.2.2.2.1
        have hrw6 : RwOK (actM μ fo nc ns (nI hd) A B 2) nc ns := by rw [act_yes g1 h16 hpos, setR_2]; exact hrw.act g1 hpos
        have lo : ∀ j, j < 5 → actM μ fo nc ns (nI hd) A B 2 j = μ 2 j := fun j hj => by rw [act_yes g1 h16 hpos, setR_2]; exact actR_lo hrw.2.1 g1 hpos (by omega)
        have hL6 := hL5.1.ac f6 hv6 hrw6 (lo 3 (by decide)) (lo 4 (by decide))
        have e53 : hI h6 (x + 88) 3 = μ 0 53 := (f6.I (by unfold acS akS ptW psW; omega)).trans hL5.2.2.1
        have e54 : hI h6 (x + 88) 4 = μ 0 54 := (f6.I (by unfold acS akS ptW psW; omega)).trans hL5.2.2.2
        -- done and latest written
        have fin : ∀ (hh : Hp) (v : Int32), Fr (fun a k => a = x + 88 ∧ (k = 3 ∨ k = 4)) h6 hh → hI hh (x + 88) 3 = μ 0 53 + 1 → hI hh (x + 88) 4 = v → (some (.int 1) : Option Value) = some (.int (bI (decide (0 ≤ ((0, up2 (up2 (actM μ fo nc ns (nI hd) A B) 0 54 v) 0 53 (μ 0 53 + 1)) : Int32 × Mu).1)))) ∧ Fr (orS x) h hh ∧ (0 ≤ ((0, up2 (up2 (actM μ fo nc ns (nI hd) A B) 0 54 v) 0 53 (μ 0 53 + 1)) : Int32 × Mu).1 → Lo E hh x (up2 (up2 (actM μ fo nc ns (nI hd) A B) 0 54 v) 0 53 (μ 0 53 + 1)) nc ns nl lw fo) := by
          intro hh v fh q3 q4
          refine ⟨rfl, fr6.tr (fh.mono (fun a k z => (Or.inr (Or.inr z) : orS x a k))), fun _ => ?_⟩
          obtain ⟨hc7, hv7, -, h37, hlw7, hfo7⟩ := hL6
          obtain ⟨nw, hps7⟩ := hps6
          have e2 : up2 (up2 (actM μ fo nc ns (nI hd) A B) 0 54 v) 0 53 (μ 0 53 + 1) 2 = actM μ fo nc ns (nI hd) A B 2 := by rw [up2_other (by decide), up2_other (by decide)]
          have eu : uF (up2 (up2 (actM μ fo nc ns (nI hd) A B) 0 54 v) 0 53 (μ 0 53 + 1)) = uF (actM μ fo nc ns (nI hd) A B) := by unfold uF; rw [up2_ne (by decide), up2_ne (by decide)]
          refine ⟨?_, ⟨nw, ?_⟩, by rw [up2_at]; exact q3, by rw [up2_ne (by decide), up2_at]; exact q4⟩
          · rw [e2]
            exact ⟨hc7.orr (fh.mono (fun a k z => (Or.inr (Or.inr z) : orS x a k))), hv7.fr fh (fun i k hi => by omega), hrw6, h37, ⟨fun z => by rw [fh.R (by omega)]; exact hlw7.1 z, hlw7.2⟩, hfo7.far fh (fun a k ha => by omega)⟩
          · rw [eu]
            have := hps7.fr fh (by omega) (by omega) (fun i k h1 h2 => by omega)
            exact this.cg (fun i hi => by rw [up2_other (by decide), up2_other (by decide)]) (fun i hi j hj => by show up2 _ 0 53 _ 5 _ = _; rw [up2_ne (by omega), up2_ne (by omega)]; rfl)
        refine r_aload_n (pc := 113) 0 dX3_ranOnce_113 rfl ?_
        refine r_dup (pc := 114) dX3_ranOnce_114 rfl ?_
        refine r_getI (pc := 115) fl_X3_32 (ca_88 hc6) dX3_ranOnce_115 ?_
        rw [e53]
        refine r_iconst (pc := 118) (1) dX3_ranOnce_118 rfl ?_
        refine r_iadd (pc := 119) dX3_ranOnce_119 ?_
        refine r_putI (pc := 120) fp_X3_32 (ca_88 hc6) dX3_ranOnce_120 ?_
        refine r_iload (pc := 123) 5 dX3_ranOnce_123 rfl ?_
        refine r_iconst (pc := 125) (1) dX3_ranOnce_125 rfl ?_
        refine r_icmp_ne (pc := 126) (tgt := 135) dX3_ranOnce_126 (by decide) (fun c_126 => ?_) (fun c_126 => ?_)
        · have hd1 : ¬ nI hd = 1 := c_126
          rw [if_neg hd1]
          refine r_iconst (pc := 135) (1) dX3_ranOnce_135 rfl ?_
          refine r_zret (pc := 136) rfl (by decide) ?_ (Nat.le_of_ble_eq_true rfl) (Nat.le_of_ble_eq_true rfl) dX3_ranOnce_136
          exact fin _ _ (Fr.wI ⟨rfl, Or.inl rfl⟩) hI_at (by rw [hI_ne (by omega)]; exact e54)
        · have hd1 : nI hd = 1 := c_126
          rw [if_pos hd1]
          refine r_aload_n (pc := 129) 0 dX3_ranOnce_129 rfl ?_
          refine r_iload (pc := 130) 6 dX3_ranOnce_130 rfl ?_
          refine r_putI (pc := 132) fp_X3_35 (ca_88 hc6) dX3_ranOnce_132 ?_
          refine r_iconst (pc := 135) (1) dX3_ranOnce_135 rfl ?_
          refine r_zret (pc := 136) rfl (by decide) ?_ (Nat.le_of_ble_eq_true rfl) (Nat.le_of_ble_eq_true rfl) dX3_ranOnce_136
          exact fin _ _ (Fr.tr (Fr.wI ⟨rfl, Or.inl rfl⟩) (Fr.wI ⟨rfl, Or.inr rfl⟩)) (by rw [hI_ne (by omega), hI_at]) hI_at
      · have hneg : actV (μ 2) fo nc ns (nI hd) A B < 0 := Int32.not_le.mp c_108
        rw [if_pos hneg]
        refine r_iconst (pc := 111) (0) dX3_ranOnce_111 rfl ?_
        refine r_zret (pc := 112) rfl (by decide) ?_ (Nat.le_of_ble_eq_true rfl) (Nat.le_of_ble_eq_true rfl) dX3_ranOnce_112
        exact ⟨rfl, fr6, fun z => absurd z (show ¬ (0 : Int32) ≤ -3 by decide)⟩
    refine r_lstore (pc := 61) (lv' := [(0, _), (1, _), (2, _), (3, _), (5, _)]) dX3_ranOnce_61 (Nat.le_of_ble_eq_true rfl) rfl ?_
    refine r_lload_n (pc := 63) 3 dX3_ranOnce_63 rfl ?_
    refine r_ldc2_w (pc := 64) cs_X3_67 dX3_ranOnce_64 ?_
    refine r_lcmp_eq (pc := 67) (tgt := 80) dX3_ranOnce_67 dX3_ranOnce_68 (by decide) (fun c_67 => ?_) (fun c_67 => ?_)
    · by_cases h3 : hd = 3
      · rw [hv1b h3] at c_67; exact absurd c_67 (by decide)
      · rw [(hv1c h3).1] at c_67
        exact hbad ⟨h3, Or.inl ((Bd_min (hv1c h3).2 heb).mp c_67)⟩
    · refine r_lload (pc := 71) 4 dX3_ranOnce_71 rfl ?_
      refine r_ldc2_w (pc := 73) cs_X3_67 dX3_ranOnce_73 ?_
      refine r_lcmp_ne (pc := 76) (tgt := 82) dX3_ranOnce_76 dX3_ranOnce_77 (by decide) (fun c_76 => ?_) (fun c_76 => ?_)
      · refine hgood ?_
        by_cases h3 : hd = 3
        · exact Or.inl h3
        · rw [(hv1c h3).1] at c_67
          rw [(hv2c h3).1] at c_76
          cases hs1 : d.2.2.2.1 e with
          | none => rw [hs1] at c_67; exact absurd rfl c_67
          | some z1 =>
            cases hs2 : d.2.2.2.2 e with
            | none => rw [hs2] at c_76; exact absurd rfl c_76
            | some z2 => exact Or.inr ⟨z1, z2, rfl, rfl⟩
      · by_cases h3 : hd = 3
        · rw [hv2b h3] at c_76; exact absurd c_76 (by decide)
        · rw [(hv2c h3).1] at c_76
          exact hbad ⟨h3, Or.inr ((Bd_min (hv2c h3).2 heb).mp c_76)⟩
  · have hno : ¬ ifO d.2.2.1 e = true := fun z => c_26 ((ifV_okO hTs).mpr z)
    rw [if_neg hno] at hEo
    rw [hEo]
    refine r_iconst (pc := 30) (1) dX3_ranOnce_30 rfl ?_
    refine r_zret (pc := 31) rfl (by decide) ?_ (Nat.le_of_ble_eq_true rfl) (Nat.le_of_ble_eq_true rfl) dX3_ranOnce_31
    exact ⟨rfl, fr3.mono (fun _ _ => scS_or), fun _ => hL3⟩
end ORDERS
