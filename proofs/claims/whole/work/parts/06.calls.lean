/-! calls and returns -/
def Mc (M' : Mi) (n : Nat) : Prop := Cond.code M'.1 M'.2.1 M'.2.2.1 M'.2.2.2 ∈ gws ∧ Cond.initialized M'.1.cls ∈ gws ∧ M'.1.cls ≠ "java/lang/invoke/MethodHandle" ∧ M'.1.cls ≠ "java/lang/invoke/VarHandle" ∧ (parseMethodDescriptor M'.1.desc).map (fun d => d.parameters.length) = some n
def Mv (M' : Mi) (ci n : Nat) : Prop := Mc M' n ∧ Cond.instanceMethod M'.1 ∈ gws ∧ Cond.selects M'.1.cls M'.1 M'.1 ∈ gws ∧ ci < 13 ∧ ∃ (T : u_T) (N : Nat), vwCl[ci]? = some (M'.1.cls, T, N)
def Ms (M' : Mi) (n : Nat) : Prop := Mc M' n ∧ Cond.static M'.1 ∈ gws
def Mn (M' : Mi) (n : Nat) : Prop := Mc M' n ∧ Cond.instanceMethod M'.1 ∈ gws ∧ M'.1.name = "<init>" ∧ M'.2.2.2 = none
theorem gws_in {M' : Mi} (h : Cond.code M'.1 M'.2.1 M'.2.2.1 M'.2.2.2 ∈ gws) : GoodIn gws (mW M') := fun w hw => by
  have hm : w ∈ gws := by
    rcases List.mem_cons.mp hw with rfl | hw
    · exact h
    · exact hw
  exact ⟨hm, good_of_word (gws_good hm)⟩
section CROWS
variable {E : En} {M : Mi} {R : Room} {Q : Qg} {pc : Nat} {lv lv' : List (Nat × Value)} {st : List Value} {h : Hp} {cl sl : Nat}
variable {d mc ms n idx ci b : Nat} {M' : Mi} {As : List Value} {post : Option Value → Hp → Prop} {st0 : List Value}
theorem r_goon {p : Program} {e : Env} {s : State} {m : MethodId} {ar : Array Value} {bl : List Frame} {me : Method} {c : Code} (C : Cx E M p s m ar me c) {H : Heap} {lo : List Loc} {ls : Array Slot} {a' : Array Value} (hS : va_S (eA E) s.heap H lo) (hl : lv_has ls M.2.2.1 lv)
    (hr : va_Run p E.1 e R s m ar bl me c H lo cl sl mc ms (F0 m pc ls st0) st (Qc E post a') (eA E)) (kk : ∀ (r : Option Value) (h' : Hp), post r h' → Wp E M R Q (pc + 3) lv (r.toList ++ st) h' (cl + mc) (sl + ms)) :
    W p E.1 e R s m ar bl me c H lo cl sl (Q bl ar s) (F0 m pc ls st0) := by
  intro T hT X
  obtain ⟨v, st₀, t, T', L, h0, X', hL, e1, e2, ⟨⟨r, h', hv, hp, hb⟩, hz, hk⟩, go⟩ := hr T hT X
  cases hv
  rw [h0] at hz hk
  obtain ⟨t2, a1, b1⟩ := kk _ h' hp p e s m ar bl me c C T'.heap (lo ++ L) ls (by rw [e1]; exact hb)
    ⟨Nat.le_trans hS.1 (by rw [e1]; exact hz), fun q h1 h2 => by rw [e1, hk q (Nat.lt_of_lt_of_le h1 hS.1) h2]; exact hS.2.1 q h1 h2, fun q hq => by
      rcases List.mem_append.mp hq with h | h
      · exact hS.2.2 q h
      · exact hL q h⟩ hl T' rfl X'
  exact ⟨t2, go t2 a1, b1⟩
theorem Pm.at {E : En} {M : Mi} {p : Program} {s : State} {m : MethodId} {ar : Array Value} {me : Method} {c : Code} (C : Cx E M p s m ar me c) {av : List Value} {h : Hp} {H : Heap} {lo : List Loc} (hH : hpOK E h H) (hS : va_S (eA E) s.heap H lo) : ∀ U : State, U.heap = H → s.WarmedH U.vm → Pm E av h av.toArray U := by
  intro U hU hW
  obtain ⟨-, -, -, -, -, -, -, -, hKw, hz⟩ := C
  exact ⟨rfl, by rw [hU]; exact hH, hKw.moved hW (fun q hq => by rw [hU]; exact hS.2.1 q (Nat.lt_of_lt_of_le hq hz) (Nat.not_le.mpr hq))⟩
theorem r_callV (hm : Mv M' ci n) (hlk : Cond.methodLink M.1.cls idx M'.1 ∈ gws) (hct : Ct E d mc ms M' (.ref b :: As) h post) (hb : isA E h b ci) (hst : st0 = As.reverse ++ .ref b :: st) (hn : As.length = n) (hW : (st.map fun v => v.category).sum ≤ 8) (hF : d + 1 ≤ R.frames) (hL : 8 + (M'.2.2.1 + 11) + 40 * d ≤ R.locals) (hc1 : cl + mc ≤ R.cells) (hs1 : sl + ms ≤ R.slots) (hd : decode M.2.1 pc = .ok (.invokevirtual idx, 3))
    (kk : ∀ (r : Option Value) (h' : Hp), post r h' → Wp E M R Q (pc + 3) lv (r.toList ++ st) h' (cl + mc) (sl + ms)) : Wp E M R Q pc lv st0 h cl sl := by
  intro p e s m ar bl me c C H lo ls hH hS hl
  obtain ⟨hx, hbb, hml, -, -, -, hown, hts, hKw, hz⟩ := id C
  obtain ⟨⟨hcode, hini, hy1, hy2, hpn⟩, hinst, hsel, hci, T, N, hcl⟩ := hm
  obtain ⟨q, hq⟩ := hW_at hb.1 hb.2.1
  rw [hE_obj hb.2.2 hci] at hq
  have hG : GoodIn gws (wsV M.1.cls idx M'.1.cls M'.1 (mW M')) := fun w hw => by
    unfold wsV at hw
    rcases List.mem_append.mp hw with hw | hw
    · simp only [List.mem_cons, List.not_mem_nil, or_false] at hw
      rcases hw with rfl | rfl | rfl | rfl
      · exact ⟨hlk, good_of_word (gws_good hlk)⟩
      · exact ⟨hinst, good_of_word (gws_good hinst)⟩
      · exact ⟨hsel, good_of_word (gws_good hsel)⟩
      · exact ⟨hini, good_of_word (gws_good hini)⟩
    · exact gws_in hcode w hw
  subst hst
  exact r_goon C hS hl (va_runV (As := As) (rest := st) ⟨hx, hbb, hml, hown, hts⟩ hct (cwV (C := M'.1.cls) n hts hG rfl rfl rfl ⟨rfl, hy1, hy2, hpn⟩ ⟨hF, hL⟩) ⟨Pm.blind E _ h, va_recv hKw.1 hH.1 hcl hq, Pm.at C hH hS⟩ rfl hn hl.1 rfl (lv_room hW) hd ⟨hc1, hs1⟩) kk
theorem r_callS (hm : Ms M' n) (hlk : Cond.methodLink M.1.cls idx M'.1 ∈ gws) (hct : Ct E d mc ms M' As h post) (hst : st0 = As.reverse ++ st) (hn : As.length = n) (hW : (st.map fun v => v.category).sum ≤ 8) (hF : d + 1 ≤ R.frames) (hL : 8 + (M'.2.2.1 + 11) + 40 * d ≤ R.locals) (hc1 : cl + mc ≤ R.cells) (hs1 : sl + ms ≤ R.slots) (hd : decode M.2.1 pc = .ok (.invokestatic idx, 3))
    (kk : ∀ (r : Option Value) (h' : Hp), post r h' → Wp E M R Q (pc + 3) lv (r.toList ++ st) h' (cl + mc) (sl + ms)) : Wp E M R Q pc lv st0 h cl sl := by
  intro p e s m ar bl me c C H lo ls hH hS hl
  obtain ⟨hx, hbb, hml, -, -, -, hown, hts, hKw, hz⟩ := id C
  obtain ⟨⟨hcode, hini, hy1, hy2, hpn⟩, hstat⟩ := hm
  have hG : GoodIn gws (va_wsS M.1.cls idx M'.1 (mW M')) := fun w hw => by
    unfold va_wsS at hw
    rcases List.mem_append.mp hw with hw | hw
    · simp only [List.mem_cons, List.not_mem_nil, or_false] at hw
      rcases hw with rfl | rfl | rfl
      · exact ⟨hlk, good_of_word (gws_good hlk)⟩
      · exact ⟨hstat, good_of_word (gws_good hstat)⟩
      · exact ⟨hini, good_of_word (gws_good hini)⟩
    · exact gws_in hcode w hw
  subst hst
  exact r_goon C hS hl (va_runS (As := As) (rest := st) ⟨hx, hbb, hml, hown, hts⟩ hct (va_cwS n hts hG rfl rfl rfl ⟨hy1, hy2, hpn⟩ ⟨hF, hL⟩) ⟨Pm.blind E _ h, Pm.at C hH hS⟩ rfl hn hl.1 rfl (lv_room hW) hd ⟨hc1, hs1⟩) kk
theorem r_callN {host : String} (hm : Ms M' n) (hlk : Cond.methodLinkNest M.1.cls idx M'.1 host ∈ nws) (hct : Ct E d mc ms M' As h post) (hst : st0 = As.reverse ++ st) (hn : As.length = n) (hW : (st.map fun v => v.category).sum ≤ 8) (hF : d + 1 ≤ R.frames) (hL : 8 + (M'.2.2.1 + 11) + 40 * d ≤ R.locals) (hc1 : cl + mc ≤ R.cells) (hs1 : sl + ms ≤ R.slots) (hd : decode M.2.1 pc = .ok (.invokestatic idx, 3))
    (kk : ∀ (r : Option Value) (h' : Hp), post r h' → Wp E M R Q (pc + 3) lv (r.toList ++ st) h' (cl + mc) (sl + ms)) : Wp E M R Q pc lv st0 h cl sl := by
  intro p e s m ar bl me c C H lo ls hH hS hl
  obtain ⟨hx, hbb, hml, -, -, -, hown, hts, hKw, hz⟩ := id C
  obtain ⟨⟨hcode, hini, hy1, hy2, hpn⟩, hstat⟩ := hm
  subst hst
  exact r_goon C hS hl (va_runSN (As := As) (rest := st) ⟨hx, hbb, hml, hown, hts⟩ hct ⟨va_cnB n hts (gws_in hcode) rfl rfl rfl (hKw.2.1 _ hlk) (hts _ hini) ⟨hy1, hy2, hpn⟩ ⟨hF, hL⟩, hts _ hstat, trivial⟩ ⟨Pm.blind E _ h, Pm.at C hH hS⟩ rfl hn hl.1 rfl (lv_room hW) hd ⟨hc1, hs1⟩) kk
theorem r_callI (hm : Mn M' n) (hlk : Cond.methodLink M.1.cls idx M'.1 ∈ gws) (hct : Ct E d mc ms M' (.ref b :: As) h post) (hst : st0 = As.reverse ++ .ref b :: st) (hn : As.length = n) (hW : (st.map fun v => v.category).sum ≤ 8) (hF : d + 1 ≤ R.frames) (hL : 8 + (M'.2.2.1 + 11) + 40 * d ≤ R.locals) (hc1 : cl + mc ≤ R.cells) (hs1 : sl + ms ≤ R.slots) (hd : decode M.2.1 pc = .ok (.invokespecial idx, 3))
    (kk : ∀ (r : Option Value) (h' : Hp), post r h' → Wp E M R Q (pc + 3) lv (r.toList ++ st) h' (cl + mc) (sl + ms)) : Wp E M R Q pc lv st0 h cl sl := by
  intro p e s m ar bl me c C H lo ls hH hS hl
  obtain ⟨hx, hbb, hml, -, -, -, hown, hts, hKw, hz⟩ := id C
  obtain ⟨y, cc, nL, ret⟩ := M'
  obtain ⟨⟨hcode, hini, hy1, hy2, hpn⟩, hinst, hnm, hret⟩ := hm
  have hret : ret = none := hret
  subst hret
  subst hst
  exact r_goon C hS hl (va_runI (As := As) (rest := st) ⟨hx, hbb, hml, hown, hts⟩ hct (cwI n hts (gws_in hcode) rfl rfl rfl (hts _ hini) (hts _ hlk) (hts _ hinst) hnm ⟨hy1, hy2, hpn⟩ ⟨hF, hL⟩) ⟨Pm.blind E _ h, Pm.at C hH hS⟩ rfl hn hl.1 rfl (lv_room hW) hd ⟨hc1, hs1⟩) kk
theorem r_objInit {a : Nat} (h1 : Cond.methodLink M.1.cls idx objectInit ∈ gws) (h2 : Cond.instanceMethod objectInit ∈ gws) (h3 : Cond.code objectInit ⟨#[0xb1]⟩ 1 none ∈ gws) (hF : 1 ≤ R.frames) (hL : (st.map fun v => v.category).sum + 12 ≤ R.locals) (hd : decode M.2.1 pc = .ok (.invokespecial idx, 3)) (kk : Wp E M R Q (pc + 3) lv st h cl sl) : Wp E M R Q pc lv (.ref a :: st) h cl sl := by
  intro p e s m ar bl me c C H lo ls hH hS hl
  obtain ⟨hx, hbb, hml, -, -, -, hown, hts, hKw, hz⟩ := id C
  exact W.objInit hx hbb hown (hts _ h1) (hts _ h2) (hts _ h3) rfl (hl.1.trans hml.symm) rfl hd hF (by show 2 * 0 + _ + 12 ≤ _; omega) (kk p e s m ar bl me c C H lo ls hH hS hl)
theorem r_iret {v : Int32} (hr : M.2.2.2 = some .int) (hq : post (some (.int v)) h) (hc1 : cl ≤ mc) (hs1 : sl ≤ ms) (hd : decode M.2.1 pc = .ok (.ireturn, 1)) : Wp E M R (Qm E post mc ms) pc lv [.int v] h cl sl := by
  intro p e s m ar bl me c C H lo ls hH hS hl
  obtain ⟨hx, hbb, -, hret, hlk, -, -, -, -, -⟩ := id C
  exact W.widen hc1 hs1 (W.iret hx hbb (hret.trans hr) (fun t ht _ => ⟨⟨_, h, rfl, hq, by rw [ht]; exact hH⟩, hS.F ht⟩) (fun q hq => hS.2.2 q hq) hd hlk)
theorem r_zret {v : Int32} (hr : M.2.2.2 = some .boolean) (hv : v = 0 ∨ v = 1) (hq : post (some (.int v)) h) (hc1 : cl ≤ mc) (hs1 : sl ≤ ms) (hd : decode M.2.1 pc = .ok (.ireturn, 1)) : Wp E M R (Qm E post mc ms) pc lv [.int v] h cl sl := by
  intro p e s m ar bl me c C H lo ls hH hS hl
  obtain ⟨hx, hbb, -, hret, hlk, -, -, -, -, -⟩ := id C
  exact W.widen hc1 hs1 (W.zret hx hbb (hret.trans hr) (by rcases hv with rfl | rfl <;> rfl) (fun t ht _ => ⟨⟨_, h, rfl, hq, by rw [ht]; exact hH⟩, hS.F ht⟩) (fun q hq => hS.2.2 q hq) hd hlk)
theorem r_lret {v : Int64} (hr : M.2.2.2 = some .long) (hq : post (some (.long v)) h) (hc1 : cl ≤ mc) (hs1 : sl ≤ ms) (hd : decode M.2.1 pc = .ok (.lreturn, 1)) : Wp E M R (Qm E post mc ms) pc lv [.long v] h cl sl := by
  intro p e s m ar bl me c C H lo ls hH hS hl
  obtain ⟨hx, hbb, -, hret, hlk, -, -, -, -, -⟩ := id C
  exact W.widen hc1 hs1 (W.lret hx hbb (hret.trans hr) (fun t ht _ => ⟨⟨_, h, rfl, hq, by rw [ht]; exact hH⟩, hS.F ht⟩) (fun q hq => hS.2.2 q hq) hd hlk)
theorem r_vret (hr : M.2.2.2 = none) (hq : post none h) (hc1 : cl ≤ mc) (hs1 : sl ≤ ms) (hd : decode M.2.1 pc = .ok (.return_, 1)) : Wp E M R (Qm E post mc ms) pc lv [] h cl sl := by
  intro p e s m ar bl me c C H lo ls hH hS hl
  obtain ⟨hx, hbb, -, hret, hlk, -, -, -, -, -⟩ := id C
  exact W.widen hc1 hs1 (W.vret hx hbb (hret.trans hr) (fun t ht _ => ⟨⟨_, h, rfl, hq, by rw [ht]; exact hH⟩, hS.F ht⟩) (fun q hq => hS.2.2 q hq) hd hlk)
theorem r_aret {v : Option Nat} {rt : FieldType} (hr : M.2.2.2 = some rt) (hrt : (∃ n, rt = .object n) ∨ ∃ t, rt = .array t) (hq : post (some (va_rf v)) h) (hc1 : cl ≤ mc) (hs1 : sl ≤ ms) (hd : decode M.2.1 pc = .ok (.areturn, 1)) : Wp E M R (Qm E post mc ms) pc lv [va_rf v] h cl sl := by
  intro p e s m ar bl me c C H lo ls hH hS hl
  obtain ⟨hx, hbb, -, hret, hlk, -, -, -, -, -⟩ := id C
  exact W.widen hc1 hs1 (W.aret hx hbb (hret.trans hr) hrt (by cases v with | none => exact Or.inl rfl | some a => exact Or.inr ⟨a, rfl⟩) (fun t ht _ => ⟨⟨_, h, rfl, hq, by rw [ht]; exact hH⟩, hS.F ht⟩) (fun q hq => hS.2.2 q hq) hd hlk)
/-- a weaker end -/
theorem Ct.mono {av : List Value} {post' : Option Value → Hp → Prop} (hp : ∀ r h', post r h' → post' r h') (hct : Ct E d mc ms M av h post) : Ct E d mc ms M av h post' := by
  intro p e ha hc hk s m args below hf hfit hP hK
  obtain ⟨k, o, h1, h2, h3, ⟨⟨r, h', g1, g2, g3⟩, g4⟩, g5⟩ := hct p e ha hc hk s m args below hf hfit hP hK
  exact ⟨k, o, h1, h2, h3, ⟨⟨r, h', g1, hp r h' g2, g3⟩, g4⟩, g5⟩
end CROWS
