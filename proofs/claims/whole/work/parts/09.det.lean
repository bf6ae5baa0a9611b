/-! sure ends; the model's cells; numbers -/
def po (v : Option Value) (g : Hp) : Option Value → Hp → Prop := fun r h' => r = v ∧ h' = g
section DROWS
variable {E : En} {M : Mi} {R : Room} {Q : Qg} {pc : Nat} {lv lv' : List (Nat × Value)} {st : List Value} {h : Hp} {cl sl : Nat}
variable {d n idx ci b : Nat} {M' : Mi} {As : List Value} {st0 : List Value} {v : Value} {g : Hp}
theorem r_dV (hm : Mv M' ci n) (hlk : Cond.methodLink M.1.cls idx M'.1 ∈ gws) (hct : Ct E d 0 0 M' (.ref b :: As) h (po (some v) g)) (hb : isA E h b ci) (hst : st0 = As.reverse ++ .ref b :: st) (hn : As.length = n) (hW : (st.map fun v => v.category).sum ≤ 8) (hF : d + 1 ≤ R.frames) (hL : 8 + (M'.2.2.1 + 11) + 40 * d ≤ R.locals) (hc1 : cl ≤ R.cells) (hs1 : sl ≤ R.slots) (hd : decode M.2.1 pc = .ok (.invokevirtual idx, 3)) (kk : Wp E M R Q (pc + 3) lv (v :: st) g cl sl) : Wp E M R Q pc lv st0 h cl sl :=
  r_callV hm hlk hct hb hst hn hW hF hL hc1 hs1 hd (fun r h' hp => by obtain ⟨rfl, rfl⟩ := hp; exact kk)
theorem r_dV0 (hm : Mv M' ci n) (hlk : Cond.methodLink M.1.cls idx M'.1 ∈ gws) (hct : Ct E d 0 0 M' (.ref b :: As) h (po none g)) (hb : isA E h b ci) (hst : st0 = As.reverse ++ .ref b :: st) (hn : As.length = n) (hW : (st.map fun v => v.category).sum ≤ 8) (hF : d + 1 ≤ R.frames) (hL : 8 + (M'.2.2.1 + 11) + 40 * d ≤ R.locals) (hc1 : cl ≤ R.cells) (hs1 : sl ≤ R.slots) (hd : decode M.2.1 pc = .ok (.invokevirtual idx, 3)) (kk : Wp E M R Q (pc + 3) lv st g cl sl) : Wp E M R Q pc lv st0 h cl sl :=
  r_callV hm hlk hct hb hst hn hW hF hL hc1 hs1 hd (fun r h' hp => by obtain ⟨rfl, rfl⟩ := hp; exact kk)
theorem r_dS (hm : Ms M' n) (hlk : Cond.methodLink M.1.cls idx M'.1 ∈ gws) (hct : Ct E d 0 0 M' As h (po (some v) g)) (hst : st0 = As.reverse ++ st) (hn : As.length = n) (hW : (st.map fun v => v.category).sum ≤ 8) (hF : d + 1 ≤ R.frames) (hL : 8 + (M'.2.2.1 + 11) + 40 * d ≤ R.locals) (hc1 : cl ≤ R.cells) (hs1 : sl ≤ R.slots) (hd : decode M.2.1 pc = .ok (.invokestatic idx, 3)) (kk : Wp E M R Q (pc + 3) lv (v :: st) g cl sl) : Wp E M R Q pc lv st0 h cl sl :=
  r_callS hm hlk hct hst hn hW hF hL hc1 hs1 hd (fun r h' hp => by obtain ⟨rfl, rfl⟩ := hp; exact kk)
theorem r_dS0 (hm : Ms M' n) (hlk : Cond.methodLink M.1.cls idx M'.1 ∈ gws) (hct : Ct E d 0 0 M' As h (po none g)) (hst : st0 = As.reverse ++ st) (hn : As.length = n) (hW : (st.map fun v => v.category).sum ≤ 8) (hF : d + 1 ≤ R.frames) (hL : 8 + (M'.2.2.1 + 11) + 40 * d ≤ R.locals) (hc1 : cl ≤ R.cells) (hs1 : sl ≤ R.slots) (hd : decode M.2.1 pc = .ok (.invokestatic idx, 3)) (kk : Wp E M R Q (pc + 3) lv st g cl sl) : Wp E M R Q pc lv st0 h cl sl :=
  r_callS hm hlk hct hst hn hW hF hL hc1 hs1 hd (fun r h' hp => by obtain ⟨rfl, rfl⟩ := hp; exact kk)
theorem r_dN {host : String} (hm : Ms M' n) (hlk : Cond.methodLinkNest M.1.cls idx M'.1 host ∈ nws) (hct : Ct E d 0 0 M' As h (po (some v) g)) (hst : st0 = As.reverse ++ st) (hn : As.length = n) (hW : (st.map fun v => v.category).sum ≤ 8) (hF : d + 1 ≤ R.frames) (hL : 8 + (M'.2.2.1 + 11) + 40 * d ≤ R.locals) (hc1 : cl ≤ R.cells) (hs1 : sl ≤ R.slots) (hd : decode M.2.1 pc = .ok (.invokestatic idx, 3)) (kk : Wp E M R Q (pc + 3) lv (v :: st) g cl sl) : Wp E M R Q pc lv st0 h cl sl :=
  r_callN hm hlk hct hst hn hW hF hL hc1 hs1 hd (fun r h' hp => by obtain ⟨rfl, rfl⟩ := hp; exact kk)
theorem r_dN0 {host : String} (hm : Ms M' n) (hlk : Cond.methodLinkNest M.1.cls idx M'.1 host ∈ nws) (hct : Ct E d 0 0 M' As h (po none g)) (hst : st0 = As.reverse ++ st) (hn : As.length = n) (hW : (st.map fun v => v.category).sum ≤ 8) (hF : d + 1 ≤ R.frames) (hL : 8 + (M'.2.2.1 + 11) + 40 * d ≤ R.locals) (hc1 : cl ≤ R.cells) (hs1 : sl ≤ R.slots) (hd : decode M.2.1 pc = .ok (.invokestatic idx, 3)) (kk : Wp E M R Q (pc + 3) lv st g cl sl) : Wp E M R Q pc lv st0 h cl sl :=
  r_callN hm hlk hct hst hn hW hF hL hc1 hs1 hd (fun r h' hp => by obtain ⟨rfl, rfl⟩ := hp; exact kk)
theorem r_sub (ks : List Nat) (hl : lv_pick lv ks = lv') (kk : Wp E M R Q pc lv' st h cl sl) : Wp E M R Q pc lv st h cl sl := fun p e s m ar bl me c C H lo ls hH hS hl0 => kk p e s m ar bl me c C H lo ls hH hS (lv_sub hl0 ks hl)
end DROWS
/-- the model at m: its arrays lie behind it -/
def Md (E : En) (h : Hp) (m : Nat) : Prop := isA E h m 12 ∧ (hR h m 2 = some (m + 1) ∧ isR E h (m + 1) 13 7) ∧ (hR h m 3 = some (m + 2) ∧ isR E h (m + 2) 13 5450) ∧ (hR h m 4 = some (m + 3) ∧ isR E h (m + 3) 13 10900) ∧ (hR h m 5 = some (m + 4) ∧ isR E h (m + 4) 15 2) ∧ (hR h m 6 = some (m + 5) ∧ isR E h (m + 5) 13 594) ∧ (hR h m 7 = some (m + 6) ∧ isR E h (m + 6) 13 16) ∧ (hR h m 9 = some (m + 7) ∧ isR E h (m + 7) 13 528) ∧ (hR h m 10 = some (m + 8) ∧ isR E h (m + 8) 13 16) ∧ (hR h m 12 = some (m + 9) ∧ isR E h (m + 9) 13 400) ∧ (hR h m 22 = some (m + 10) ∧ isR E h (m + 10) 13 96) ∧ (hR h m 24 = some (m + 11) ∧ isR E h (m + 11) 13 400) ∧ (hR h m 25 = some (m + 12) ∧ isR E h (m + 12) 13 400) ∧ (hR h m 27 = some (m + 13) ∧ isR E h (m + 13) 13 400) ∧ (hR h m 28 = some (m + 14) ∧ isR E h (m + 14) 13 400) ∧ (hR h m 31 = some (m + 15) ∧ isR E h (m + 15) 14 8) ∧ (hR h m 32 = some (m + 16) ∧ isR E h (m + 16) 14 7) ∧ (hR h m 33 = some (m + 17) ∧ isR E h (m + 17) 14 4) ∧ (hR h m 35 = some (m + 18) ∧ isR E h (m + 18) 14 13) ∧ (hR h m 36 = some (m + 19) ∧ isR E h (m + 19) 14 13) ∧ (hR h m 37 = some (m + 20) ∧ isR E h (m + 20) 14 400) ∧ (hR h m 41 = some (m + 21) ∧ isR E h (m + 21) 13 6) ∧ (hR h m 42 = some (m + 22) ∧ isR E h (m + 22) 13 81) ∧ (hR h m 43 = some (m + 23) ∧ isR E h (m + 23) 13 81) ∧ (hR h m 44 = some (m + 24) ∧ isR E h (m + 24) 14 4608) ∧ (hR h m 45 = some (m + 25) ∧ isR E h (m + 25) 14 4608) ∧ (hR h m 46 = some (m + 26) ∧ isR E h (m + 26) 14 10) ∧ (hR h m 47 = some (m + 27) ∧ isR E h (m + 27) 13 9) ∧ (hR h m 48 = some (m + 28) ∧ isR E h (m + 28) 13 10) ∧ (hR h m 49 = some (m + 29) ∧ isR E h (m + 29) 15 4608) ∧ (hR h m 50 = some (m + 30) ∧ isR E h (m + 30) 15 4608) ∧ (hR h m 51 = some (m + 31) ∧ isR E h (m + 31) 14 4) ∧ (hR h m 52 = some (m + 32) ∧ isR E h (m + 32) 13 96) ∧ (hR h m 58 = some (m + 33) ∧ isR E h (m + 33) 13 18)
section MD
variable {E : En} {h : Hp} {m : Nat}
theorem md_is (hm : Md E h m) : isA E h m 12 := hm.1
theorem md_f2 (hm : Md E h m) : hR h m 2 = some (m + 1) := hm.2.1.1
theorem md_r2 (hm : Md E h m) : isR E h (m + 1) 13 7 := hm.2.1.2
theorem md_f3 (hm : Md E h m) : hR h m 3 = some (m + 2) := hm.2.2.1.1
theorem md_r3 (hm : Md E h m) : isR E h (m + 2) 13 5450 := hm.2.2.1.2
theorem md_f4 (hm : Md E h m) : hR h m 4 = some (m + 3) := hm.2.2.2.1.1
theorem md_r4 (hm : Md E h m) : isR E h (m + 3) 13 10900 := hm.2.2.2.1.2
theorem md_f5 (hm : Md E h m) : hR h m 5 = some (m + 4) := hm.2.2.2.2.1.1
theorem md_r5 (hm : Md E h m) : isR E h (m + 4) 15 2 := hm.2.2.2.2.1.2
theorem md_f6 (hm : Md E h m) : hR h m 6 = some (m + 5) := hm.2.2.2.2.2.1.1
theorem md_r6 (hm : Md E h m) : isR E h (m + 5) 13 594 := hm.2.2.2.2.2.1.2
theorem md_f7 (hm : Md E h m) : hR h m 7 = some (m + 6) := hm.2.2.2.2.2.2.1.1
theorem md_r7 (hm : Md E h m) : isR E h (m + 6) 13 16 := hm.2.2.2.2.2.2.1.2
theorem md_f9 (hm : Md E h m) : hR h m 9 = some (m + 7) := hm.2.2.2.2.2.2.2.1.1
theorem md_r9 (hm : Md E h m) : isR E h (m + 7) 13 528 := hm.2.2.2.2.2.2.2.1.2
theorem md_f10 (hm : Md E h m) : hR h m 10 = some (m + 8) := hm.2.2.2.2.2.2.2.2.1.1
theorem md_r10 (hm : Md E h m) : isR E h (m + 8) 13 16 := hm.2.2.2.2.2.2.2.2.1.2
theorem md_f12 (hm : Md E h m) : hR h m 12 = some (m + 9) := hm.2.2.2.2.2.2.2.2.2.1.1
theorem md_r12 (hm : Md E h m) : isR E h (m + 9) 13 400 := hm.2.2.2.2.2.2.2.2.2.1.2
theorem md_f22 (hm : Md E h m) : hR h m 22 = some (m + 10) := hm.2.2.2.2.2.2.2.2.2.2.1.1
theorem md_r22 (hm : Md E h m) : isR E h (m + 10) 13 96 := hm.2.2.2.2.2.2.2.2.2.2.1.2
theorem md_f24 (hm : Md E h m) : hR h m 24 = some (m + 11) := hm.2.2.2.2.2.2.2.2.2.2.2.1.1
theorem md_r24 (hm : Md E h m) : isR E h (m + 11) 13 400 := hm.2.2.2.2.2.2.2.2.2.2.2.1.2
theorem md_f25 (hm : Md E h m) : hR h m 25 = some (m + 12) := hm.2.2.2.2.2.2.2.2.2.2.2.2.1.1
theorem md_r25 (hm : Md E h m) : isR E h (m + 12) 13 400 := hm.2.2.2.2.2.2.2.2.2.2.2.2.1.2
theorem md_f27 (hm : Md E h m) : hR h m 27 = some (m + 13) := hm.2.2.2.2.2.2.2.2.2.2.2.2.2.1.1
theorem md_r27 (hm : Md E h m) : isR E h (m + 13) 13 400 := hm.2.2.2.2.2.2.2.2.2.2.2.2.2.1.2
theorem md_f28 (hm : Md E h m) : hR h m 28 = some (m + 14) := hm.2.2.2.2.2.2.2.2.2.2.2.2.2.2.1.1
theorem md_r28 (hm : Md E h m) : isR E h (m + 14) 13 400 := hm.2.2.2.2.2.2.2.2.2.2.2.2.2.2.1.2
theorem md_f31 (hm : Md E h m) : hR h m 31 = some (m + 15) := hm.2.2.2.2.2.2.2.2.2.2.2.2.2.2.2.1.1
theorem md_r31 (hm : Md E h m) : isR E h (m + 15) 14 8 := hm.2.2.2.2.2.2.2.2.2.2.2.2.2.2.2.1.2
theorem md_f32 (hm : Md E h m) : hR h m 32 = some (m + 16) := hm.2.2.2.2.2.2.2.2.2.2.2.2.2.2.2.2.1.1
theorem md_r32 (hm : Md E h m) : isR E h (m + 16) 14 7 := hm.2.2.2.2.2.2.2.2.2.2.2.2.2.2.2.2.1.2
theorem md_f33 (hm : Md E h m) : hR h m 33 = some (m + 17) := hm.2.2.2.2.2.2.2.2.2.2.2.2.2.2.2.2.2.1.1
theorem md_r33 (hm : Md E h m) : isR E h (m + 17) 14 4 := hm.2.2.2.2.2.2.2.2.2.2.2.2.2.2.2.2.2.1.2
theorem md_f35 (hm : Md E h m) : hR h m 35 = some (m + 18) := hm.2.2.2.2.2.2.2.2.2.2.2.2.2.2.2.2.2.2.1.1
theorem md_r35 (hm : Md E h m) : isR E h (m + 18) 14 13 := hm.2.2.2.2.2.2.2.2.2.2.2.2.2.2.2.2.2.2.1.2
theorem md_f36 (hm : Md E h m) : hR h m 36 = some (m + 19) := hm.2.2.2.2.2.2.2.2.2.2.2.2.2.2.2.2.2.2.2.1.1
theorem md_r36 (hm : Md E h m) : isR E h (m + 19) 14 13 := hm.2.2.2.2.2.2.2.2.2.2.2.2.2.2.2.2.2.2.2.1.2
theorem md_f37 (hm : Md E h m) : hR h m 37 = some (m + 20) := hm.2.2.2.2.2.2.2.2.2.2.2.2.2.2.2.2.2.2.2.2.1.1
theorem md_r37 (hm : Md E h m) : isR E h (m + 20) 14 400 := hm.2.2.2.2.2.2.2.2.2.2.2.2.2.2.2.2.2.2.2.2.1.2
theorem md_f41 (hm : Md E h m) : hR h m 41 = some (m + 21) := hm.2.2.2.2.2.2.2.2.2.2.2.2.2.2.2.2.2.2.2.2.2.1.1
theorem md_r41 (hm : Md E h m) : isR E h (m + 21) 13 6 := hm.2.2.2.2.2.2.2.2.2.2.2.2.2.2.2.2.2.2.2.2.2.1.2
theorem md_f42 (hm : Md E h m) : hR h m 42 = some (m + 22) := hm.2.2.2.2.2.2.2.2.2.2.2.2.2.2.2.2.2.2.2.2.2.2.1.1
theorem md_r42 (hm : Md E h m) : isR E h (m + 22) 13 81 := hm.2.2.2.2.2.2.2.2.2.2.2.2.2.2.2.2.2.2.2.2.2.2.1.2
theorem md_f43 (hm : Md E h m) : hR h m 43 = some (m + 23) := hm.2.2.2.2.2.2.2.2.2.2.2.2.2.2.2.2.2.2.2.2.2.2.2.1.1
theorem md_r43 (hm : Md E h m) : isR E h (m + 23) 13 81 := hm.2.2.2.2.2.2.2.2.2.2.2.2.2.2.2.2.2.2.2.2.2.2.2.1.2
theorem md_f44 (hm : Md E h m) : hR h m 44 = some (m + 24) := hm.2.2.2.2.2.2.2.2.2.2.2.2.2.2.2.2.2.2.2.2.2.2.2.2.1.1
theorem md_r44 (hm : Md E h m) : isR E h (m + 24) 14 4608 := hm.2.2.2.2.2.2.2.2.2.2.2.2.2.2.2.2.2.2.2.2.2.2.2.2.1.2
theorem md_f45 (hm : Md E h m) : hR h m 45 = some (m + 25) := hm.2.2.2.2.2.2.2.2.2.2.2.2.2.2.2.2.2.2.2.2.2.2.2.2.2.1.1
theorem md_r45 (hm : Md E h m) : isR E h (m + 25) 14 4608 := hm.2.2.2.2.2.2.2.2.2.2.2.2.2.2.2.2.2.2.2.2.2.2.2.2.2.1.2
theorem md_f46 (hm : Md E h m) : hR h m 46 = some (m + 26) := hm.2.2.2.2.2.2.2.2.2.2.2.2.2.2.2.2.2.2.2.2.2.2.2.2.2.2.1.1
theorem md_r46 (hm : Md E h m) : isR E h (m + 26) 14 10 := hm.2.2.2.2.2.2.2.2.2.2.2.2.2.2.2.2.2.2.2.2.2.2.2.2.2.2.1.2
theorem md_f47 (hm : Md E h m) : hR h m 47 = some (m + 27) := hm.2.2.2.2.2.2.2.2.2.2.2.2.2.2.2.2.2.2.2.2.2.2.2.2.2.2.2.1.1
theorem md_r47 (hm : Md E h m) : isR E h (m + 27) 13 9 := hm.2.2.2.2.2.2.2.2.2.2.2.2.2.2.2.2.2.2.2.2.2.2.2.2.2.2.2.1.2
theorem md_f48 (hm : Md E h m) : hR h m 48 = some (m + 28) := hm.2.2.2.2.2.2.2.2.2.2.2.2.2.2.2.2.2.2.2.2.2.2.2.2.2.2.2.2.1.1
theorem md_r48 (hm : Md E h m) : isR E h (m + 28) 13 10 := hm.2.2.2.2.2.2.2.2.2.2.2.2.2.2.2.2.2.2.2.2.2.2.2.2.2.2.2.2.1.2
theorem md_f49 (hm : Md E h m) : hR h m 49 = some (m + 29) := hm.2.2.2.2.2.2.2.2.2.2.2.2.2.2.2.2.2.2.2.2.2.2.2.2.2.2.2.2.2.1.1
theorem md_r49 (hm : Md E h m) : isR E h (m + 29) 15 4608 := hm.2.2.2.2.2.2.2.2.2.2.2.2.2.2.2.2.2.2.2.2.2.2.2.2.2.2.2.2.2.1.2
theorem md_f50 (hm : Md E h m) : hR h m 50 = some (m + 30) := hm.2.2.2.2.2.2.2.2.2.2.2.2.2.2.2.2.2.2.2.2.2.2.2.2.2.2.2.2.2.2.1.1
theorem md_r50 (hm : Md E h m) : isR E h (m + 30) 15 4608 := hm.2.2.2.2.2.2.2.2.2.2.2.2.2.2.2.2.2.2.2.2.2.2.2.2.2.2.2.2.2.2.1.2
theorem md_f51 (hm : Md E h m) : hR h m 51 = some (m + 31) := hm.2.2.2.2.2.2.2.2.2.2.2.2.2.2.2.2.2.2.2.2.2.2.2.2.2.2.2.2.2.2.2.1.1
theorem md_r51 (hm : Md E h m) : isR E h (m + 31) 14 4 := hm.2.2.2.2.2.2.2.2.2.2.2.2.2.2.2.2.2.2.2.2.2.2.2.2.2.2.2.2.2.2.2.1.2
theorem md_f52 (hm : Md E h m) : hR h m 52 = some (m + 32) := hm.2.2.2.2.2.2.2.2.2.2.2.2.2.2.2.2.2.2.2.2.2.2.2.2.2.2.2.2.2.2.2.2.1.1
theorem md_r52 (hm : Md E h m) : isR E h (m + 32) 13 96 := hm.2.2.2.2.2.2.2.2.2.2.2.2.2.2.2.2.2.2.2.2.2.2.2.2.2.2.2.2.2.2.2.2.1.2
theorem md_f58 (hm : Md E h m) : hR h m 58 = some (m + 33) := hm.2.2.2.2.2.2.2.2.2.2.2.2.2.2.2.2.2.2.2.2.2.2.2.2.2.2.2.2.2.2.2.2.2.1
theorem md_r58 (hm : Md E h m) : isR E h (m + 33) 13 18 := hm.2.2.2.2.2.2.2.2.2.2.2.2.2.2.2.2.2.2.2.2.2.2.2.2.2.2.2.2.2.2.2.2.2.2
end MD
theorem fa_lit (n : Nat) : (OfNat.ofNat n : Int32) = nI n := rfl
theorem fa_litL (n : Nat) : (OfNat.ofNat n : Int64) = lN n := rfl
theorem fa_lt (a b : Int32) : a < b ↔ a.toInt < b.toInt := Int32.lt_iff_toInt_lt
theorem fa_le (a b : Int32) : a ≤ b ↔ a.toInt ≤ b.toInt := Int32.le_iff_toInt_le
theorem fa_eq (a b : Int32) : a = b ↔ a.toInt = b.toInt := Int32.toInt_inj.symm
theorem fa_lt64 (a b : Int64) : a < b ↔ a.toInt < b.toInt := Int64.lt_iff_toInt_lt
theorem fa_le64 (a b : Int64) : a ≤ b ↔ a.toInt ≤ b.toInt := Int64.le_iff_toInt_le
theorem fa_eq64 (a b : Int64) : a = b ↔ a.toInt = b.toInt := Int64.toInt_inj.symm
theorem nI_mul (a b : Nat) : nI a * nI b = nI (a * b) := (Int32.ofNat_mul a b).symm
theorem nI_sub {a b : Nat} (hb : b ≤ a) : nI a - nI b = nI (a - b) := by
  have h1 : nI (a - b) + nI b = nI a := by rw [nI_add, Nat.sub_add_cancel hb]
  rw [← h1]; exact Int32.add_sub_cancel _ _
/-- what a boolean method answers -/
def bI (p : Bool) : Int32 := if p then 1 else 0
theorem bI_01 (p : Bool) : bI p = 0 ∨ bI p = 1 := by cases p <;> decide
theorem bI_0 {p : Bool} : bI p = 0 ↔ p = false := by cases p <;> decide
theorem bI_n0 {p : Bool} : ¬ bI p = 0 ↔ p = true := by cases p <;> decide
theorem bI_1 {p : Bool} : bI p = 1 ↔ p = true := by cases p <;> decide
