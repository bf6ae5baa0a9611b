/-! the class's own methods: acts, and back -/
section ACT2
variable {E : En} {h h1 h2 : Hp} {x : Nat} {μ : Mu}
/-- the reference's cells stay as they are -/
def Kp (x : Nat) (h h' : Hp) : Prop := hN h ≤ hN h' ∧ ∀ a, x + 102 ≤ a → a ≤ x + 135 → hK h' a = hK h a ∧ hL h' a = hL h a ∧ hI h' a = hI h a ∧ hJ h' a = hJ h a ∧ hR h' a = hR h a
theorem Fr.kp {S : Nat → Nat → Prop} (f : Fr S h h1) (q : ∀ a k, S a k → ¬ (x + 102 ≤ a ∧ a ≤ x + 135)) : Kp x h h1 := by
  have e1 : hN h1 = hN h := by unfold hN; rw [f.1]
  have e2 : ∀ a, hK h1 a = hK h a := fun a => by unfold hK; rw [f.1]
  have e3 : ∀ a, hL h1 a = hL h a := fun a => by unfold hL; rw [f.1]
  exact ⟨Nat.le_of_eq e1.symm, fun a ha hb => ⟨e2 a, e3 a, by funext k; exact f.I (fun z => q _ _ z ⟨ha, hb⟩), by funext k; exact f.J (fun z => q _ _ z ⟨ha, hb⟩), by funext k; exact f.R (fun z => q _ _ z ⟨ha, hb⟩)⟩⟩
theorem Kp.tr (a1 : Kp x h h1) (a2 : Kp x h1 h2) : Kp x h h2 := ⟨Nat.le_trans a1.1 a2.1, fun a ha hb => by
  obtain ⟨b1, b2, b3, b4, b5⟩ := a1.2 a ha hb
  obtain ⟨c1, c2, c3, c4, c5⟩ := a2.2 a ha hb
  exact ⟨c1.trans b1, c2.trans b2, c3.trans b3, c4.trans b4, c5.trans b5⟩⟩
theorem Kp.rf : Kp x h h := ⟨Nat.le_refl _, fun _ _ _ => ⟨rfl, rfl, rfl, rfl, rfl⟩⟩
theorem kp_to {v : Int32} : Kp x h (toH x h v) := by
  have f : Fr (fun a k => (a = x ∧ k = 14) ∨ a = x + 101) h (toH x h v) := by
    unfold toH
    split
    · exact (Fr.wI (Or.inl ⟨rfl, rfl⟩)).tr (Fr.wI (Or.inr rfl))
    · exact Fr.wI (Or.inl ⟨rfl, rfl⟩)
  exact f.kp (fun a k z => by omega)
theorem kp_wI {a k : Nat} {v : Int32} (ha : ¬ (x + 102 ≤ a ∧ a ≤ x + 135)) : Kp x h (wI h a k v) := Fr.kp (S := fun b _ => b = a) (Fr.wI rfl) (fun b j z => by omega)
/-- an answer, and the relation behind it -/
def pCr (E : En) (h : Hp) (x : Nat) (v : Value) (μ' : Mu) : Option Value → Hp → Prop := fun w h' => w = some v ∧ CR E h' x μ' ∧ Kp x h h'
theorem toH_p {v : Int32} (hv : ¬ v < 0) : toH x h v = wI h x 14 0 := by unfold toH; rw [if_neg hv]
theorem act_em {fo : Option (List Cl)} {nc ns nl sg k : Nat} (hg : GM μ nc ns nl sg) (hk : k < 4) {a b : Int32} {o j : Nat} (h2 : o ≠ 2) (h5 : o ≠ 5) (h6 : o ≠ 6) (h8 : ¬ (o = 0 ∧ j = 8)) : actM μ fo nc ns (nI k) a b o j = μ o j := by
  by_cases hv : 0 ≤ actV (μ 2) fo nc ns (nI k) a b
  · rw [act_yes hk hg.2.1.2 hv, setR_ne h2]; exact rem_keep hg.2.1.2 (by omega)
  · rw [act_not hk hv hg.1.1.2.2.2.2.2.2.2.2.1]
theorem act_r {fo : Option (List Cl)} {nc ns nl sg k : Nat} (hg : GM μ nc ns nl sg) (hk : k < 4) {a b : Int32} {j : Nat} (hj : j < 5 ∨ j = 6 ∨ j = 7 ∨ 38 ≤ j) : actM μ fo nc ns (nI k) a b 2 j = μ 2 j := by
  by_cases hv : 0 ≤ actV (μ 2) fo nc ns (nI k) a b
  · rw [act_yes hk hg.2.1.2 hv, setR_2]; exact actR_keep hg.1.1.2.1 hk hv hj
  · rw [act_not hk hv hg.1.1.2.2.2.2.2.2.2.2.1]
theorem CR.act {fo : Option (List Cl)} {nc ns nl sg k : Nat} (hr : CR E h x μ) (hg : GM μ nc ns nl sg) (hk : k < 4) {a b : Int32} (f : Fr (acS x) h h1) (hv : PtV h1 (x + 3) (actM μ fo nc ns (nI k) a b 2)) (hps : PsM h1 (x + 40) (actM μ fo nc ns (nI k) a b)) : CR E h1 x (actM μ fo nc ns (nI k) a b) :=
  hr.row f (fun a k z => z.elim (fun w => Or.inl (ak_sc w)) Or.inr) hv (hg.act hk) hps (act_r hg hk (by omega)) (fun j h1 h2 => act_r hg hk (by omega)) (fun o j _ h2 h5 h6 h8 => act_em hg hk h2 h5 h6 h8)
theorem ac_kp (f : Fr (acS x) h h1) : Kp x h h1 := f.kp (fun a k z => by unfold acS akS ptW psW at z; omega)
theorem actV_t {r : Nat → Int32} {fo : Option (List Cl)} {nc ns : Nat} (hr : RwOK r nc ns) {k : Nat} (hk : k < 4) (a b : Int32) : actV r fo nc ns (nI k) a b < 0 → ∃ j, j < 7 ∧ -(actV r fo nc ns (nI k) a b) = nI j := by
  have h6 := hr.2.1
  rcases (by omega : k = 0 ∨ k = 1 ∨ k = 2 ∨ k = 3) with rfl | rfl | rfl | rfl
  · exact signV_t r fo nc ns a b
  · exact dieV_t r nc a b
  · exact clipV_t h6 (fun k hk => by obtain ⟨e, he, q⟩ := hr.2.2.2.2.2.1 k (by omega); rw [q]; exact nI_pos' (by omega)) a b
  · show passV r < 0 → ∃ j, j < 7 ∧ -(passV r) = nI j
    obtain ⟨y, hy, ey⟩ := hr.2.2.2.2.2.2.2.2.1
    unfold passV
    split
    · exact t_3
    · rw [ey, ← nI_succ]; exact t_p (nI_pos' (by omega))
theorem c11_sign {fo : Option (List Cl)} {nc ns nl sg : Nat} {lw : Option Nat} (hr : CR E h x μ) (hg : GM μ nc ns nl sg) (hL : Lv E h x (μ 2) nc ns nl lw fo) (a b : Int32) : Ct E 6 0 0 mX11_sign [.ref x, .int a, .int b] h (pCr E h x (.int (actV (μ 2) fo nc ns (nI 0) a b)) (tellM (actM μ fo nc ns (nI 0) a b) (actV (μ 2) fo nc ns (nI 0) a b))) := by
  have hc := hr.1
  refine Ct.of (by decide +kernel) (Nat.le_of_ble_eq_true rfl) ?_
  refine r_aload_n (pc := 0) 0 dX11_sign_0 rfl ?_
  refine r_aload_n (pc := 1) 0 dX11_sign_1 rfl ?_
  refine r_getR (pc := 2) fl_X11_56 (nl_is hc) (nl_f6 hc) dX11_sign_2 ?_
  refine r_iconst (pc := 5) (0) dX11_sign_5 rfl ?_
  refine r_iload_n (pc := 6) 1 dX11_sign_6 rfl ?_
  refine r_iload_n (pc := 7) 2 dX11_sign_7 rfl ?_
  refine r_callV (pc := 8) (As := [_, _, _]) mv_X1_act ml_X11_242 (c1_actM hL hr.2.2.1.1 (k := 0) (by decide) a b) (ca_39 hc) rfl rfl (Nat.le_of_ble_eq_true rfl) (Nat.le_of_ble_eq_true rfl) (Nat.le_of_ble_eq_true rfl) (Nat.le_of_ble_eq_true rfl) (Nat.le_of_ble_eq_true rfl) dX11_sign_8 (fun r h3 hp => ?_)
  obtain ⟨rfl, f3, hv3, hps3⟩ := hp
  show Wp E mX11_sign _ _ _ _ [.int _, .ref x] _ 0 0
  have hr3 := hr.act hg (by decide) f3 hv3 hps3
  have hc3 := hr3.1
  refine r_dV (pc := 11) (As := [_]) mv_X11_told ml_X11_233 (c11_told hc3 _ (actV_t hg.1.1 (by decide) a b)) (nl_is hc3) rfl rfl (Nat.le_of_ble_eq_true rfl) (Nat.le_of_ble_eq_true rfl) (Nat.le_of_ble_eq_true rfl) (Nat.le_of_ble_eq_true rfl) (Nat.le_of_ble_eq_true rfl) dX11_sign_11 ?_
  refine r_iret (pc := 14) rfl ?_ (Nat.le_of_ble_eq_true rfl) (Nat.le_of_ble_eq_true rfl) dX11_sign_14
  exact ⟨rfl, hr3.tell _ (actV_t hg.1.1 (by decide) a b), (ac_kp f3).tr kp_to⟩
theorem c11_die {fo : Option (List Cl)} {nc ns nl sg : Nat} {lw : Option Nat} (hr : CR E h x μ) (hg : GM μ nc ns nl sg) (hL : Lv E h x (μ 2) nc ns nl lw fo) (a b : Int32) : Ct E 6 0 0 mX11_die [.ref x, .int a, .int b] h (pCr E h x (.int (actV (μ 2) fo nc ns (nI 1) a b)) (tellM (actM μ fo nc ns (nI 1) a b) (actV (μ 2) fo nc ns (nI 1) a b))) := by
  have hc := hr.1
  refine Ct.of (by decide +kernel) (Nat.le_of_ble_eq_true rfl) ?_
  refine r_aload_n (pc := 0) 0 dX11_die_0 rfl ?_
  refine r_aload_n (pc := 1) 0 dX11_die_1 rfl ?_
  refine r_getR (pc := 2) fl_X11_56 (nl_is hc) (nl_f6 hc) dX11_die_2 ?_
  refine r_iconst (pc := 5) (1) dX11_die_5 rfl ?_
  refine r_iload_n (pc := 6) 1 dX11_die_6 rfl ?_
  refine r_iload_n (pc := 7) 2 dX11_die_7 rfl ?_
  refine r_callV (pc := 8) (As := [_, _, _]) mv_X1_act ml_X11_242 (c1_actM hL hr.2.2.1.1 (k := 1) (by decide) a b) (ca_39 hc) rfl rfl (Nat.le_of_ble_eq_true rfl) (Nat.le_of_ble_eq_true rfl) (Nat.le_of_ble_eq_true rfl) (Nat.le_of_ble_eq_true rfl) (Nat.le_of_ble_eq_true rfl) dX11_die_8 (fun r h3 hp => ?_)
  obtain ⟨rfl, f3, hv3, hps3⟩ := hp
  show Wp E mX11_die _ _ _ _ [.int _, .ref x] _ 0 0
  have hr3 := hr.act hg (by decide) f3 hv3 hps3
  have hc3 := hr3.1
  refine r_dV (pc := 11) (As := [_]) mv_X11_told ml_X11_233 (c11_told hc3 _ (actV_t hg.1.1 (by decide) a b)) (nl_is hc3) rfl rfl (Nat.le_of_ble_eq_true rfl) (Nat.le_of_ble_eq_true rfl) (Nat.le_of_ble_eq_true rfl) (Nat.le_of_ble_eq_true rfl) (Nat.le_of_ble_eq_true rfl) dX11_die_11 ?_
  refine r_iret (pc := 14) rfl ?_ (Nat.le_of_ble_eq_true rfl) (Nat.le_of_ble_eq_true rfl) dX11_die_14
  exact ⟨rfl, hr3.tell _ (actV_t hg.1.1 (by decide) a b), (ac_kp f3).tr kp_to⟩
theorem c11_clip {fo : Option (List Cl)} {nc ns nl sg : Nat} {lw : Option Nat} (hr : CR E h x μ) (hg : GM μ nc ns nl sg) (hL : Lv E h x (μ 2) nc ns nl lw fo) (a b : Int32) : Ct E 6 0 0 mX11_clip [.ref x, .int a, .int b] h (pCr E h x (.int (actV (μ 2) fo nc ns (nI 2) a b)) (tellM (actM μ fo nc ns (nI 2) a b) (actV (μ 2) fo nc ns (nI 2) a b))) := by
  have hc := hr.1
  refine Ct.of (by decide +kernel) (Nat.le_of_ble_eq_true rfl) ?_
  refine r_aload_n (pc := 0) 0 dX11_clip_0 rfl ?_
  refine r_aload_n (pc := 1) 0 dX11_clip_1 rfl ?_
  refine r_getR (pc := 2) fl_X11_56 (nl_is hc) (nl_f6 hc) dX11_clip_2 ?_
  refine r_iconst (pc := 5) (2) dX11_clip_5 rfl ?_
  refine r_iload_n (pc := 6) 1 dX11_clip_6 rfl ?_
  refine r_iload_n (pc := 7) 2 dX11_clip_7 rfl ?_
  refine r_callV (pc := 8) (As := [_, _, _]) mv_X1_act ml_X11_242 (c1_actM hL hr.2.2.1.1 (k := 2) (by decide) a b) (ca_39 hc) rfl rfl (Nat.le_of_ble_eq_true rfl) (Nat.le_of_ble_eq_true rfl) (Nat.le_of_ble_eq_true rfl) (Nat.le_of_ble_eq_true rfl) (Nat.le_of_ble_eq_true rfl) dX11_clip_8 (fun r h3 hp => ?_)
  obtain ⟨rfl, f3, hv3, hps3⟩ := hp
  show Wp E mX11_clip _ _ _ _ [.int _, .ref x] _ 0 0
  have hr3 := hr.act hg (by decide) f3 hv3 hps3
  have hc3 := hr3.1
  refine r_dV (pc := 11) (As := [_]) mv_X11_told ml_X11_233 (c11_told hc3 _ (actV_t hg.1.1 (by decide) a b)) (nl_is hc3) rfl rfl (Nat.le_of_ble_eq_true rfl) (Nat.le_of_ble_eq_true rfl) (Nat.le_of_ble_eq_true rfl) (Nat.le_of_ble_eq_true rfl) (Nat.le_of_ble_eq_true rfl) dX11_clip_11 ?_
  refine r_iret (pc := 14) rfl ?_ (Nat.le_of_ble_eq_true rfl) (Nat.le_of_ble_eq_true rfl) dX11_clip_14
  exact ⟨rfl, hr3.tell _ (actV_t hg.1.1 (by decide) a b), (ac_kp f3).tr kp_to⟩
theorem c11_pass {fo : Option (List Cl)} {nc ns nl sg : Nat} {lw : Option Nat} (hr : CR E h x μ) (hg : GM μ nc ns nl sg) (hL : Lv E h x (μ 2) nc ns nl lw fo) : Ct E 6 0 0 mX11_pass [.ref x] h (pCr E h x (.int (actV (μ 2) fo nc ns (nI 3) 0 0)) (tellM (actM μ fo nc ns (nI 3) 0 0) (actV (μ 2) fo nc ns (nI 3) 0 0))) := by
  have hc := hr.1
  refine Ct.of (by decide +kernel) (Nat.le_of_ble_eq_true rfl) ?_
  refine r_aload_n (pc := 0) 0 dX11_pass_0 rfl ?_
  refine r_aload_n (pc := 1) 0 dX11_pass_1 rfl ?_
  refine r_getR (pc := 2) fl_X11_56 (nl_is hc) (nl_f6 hc) dX11_pass_2 ?_
  refine r_iconst (pc := 5) (3) dX11_pass_5 rfl ?_
  refine r_iconst (pc := 6) (0) dX11_pass_6 rfl ?_
  refine r_iconst (pc := 7) (0) dX11_pass_7 rfl ?_
  refine r_callV (pc := 8) (As := [_, _, _]) mv_X1_act ml_X11_242 (c1_actM hL hr.2.2.1.1 (k := 3) (by decide) 0 0) (ca_39 hc) rfl rfl (Nat.le_of_ble_eq_true rfl) (Nat.le_of_ble_eq_true rfl) (Nat.le_of_ble_eq_true rfl) (Nat.le_of_ble_eq_true rfl) (Nat.le_of_ble_eq_true rfl) dX11_pass_8 (fun r h3 hp => ?_)
  obtain ⟨rfl, f3, hv3, hps3⟩ := hp
  show Wp E mX11_pass _ _ _ _ [.int _, .ref x] _ 0 0
  have hr3 := hr.act hg (by decide) f3 hv3 hps3
  have hc3 := hr3.1
  refine r_dV (pc := 11) (As := [_]) mv_X11_told ml_X11_233 (c11_told hc3 _ (actV_t hg.1.1 (by decide) 0 0)) (nl_is hc3) rfl rfl (Nat.le_of_ble_eq_true rfl) (Nat.le_of_ble_eq_true rfl) (Nat.le_of_ble_eq_true rfl) (Nat.le_of_ble_eq_true rfl) (Nat.le_of_ble_eq_true rfl) dX11_pass_11 ?_
  refine r_iret (pc := 14) rfl ?_ (Nat.le_of_ble_eq_true rfl) (Nat.le_of_ble_eq_true rfl) dX11_pass_14
  exact ⟨rfl, hr3.tell _ (actV_t hg.1.1 (by decide) 0 0), (ac_kp f3).tr kp_to⟩
end ACT2
