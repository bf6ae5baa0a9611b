/-! the reference: what a text's code comes to -/
section EVAL12
variable {E : En} {h : Hp} {m : Nat} {μ : Mu} {l : La}
/-- what two numbers come to, and whether that is broken -/
def rkV (op : Int32) (a b : Int64) : Int64 := if op = 20 then a + b else if op = 21 then a - b else if op = 22 then a * b else if op = 23 then (if b = 0 then 0 else a / b) else if op = 24 then (if b = 0 then 0 else a - a / b * b) else if op = 25 then (if a < b then 1 else 0) else if op = 26 then (if b < a then 1 else 0) else if a = b then 1 else 0
def rkD (op : Int32) (b : Int64) : Bool := decide ((op = 23 ∨ op = 24) ∧ b = 0)
def rkB (op : Int32) (a b : Int64) : Bool := rkD op b || !decide (-1000000000 ≤ rkV op a b ∧ rkV op a b ≤ 1000000000)
theorem ct_reckon (hm : Md E h m) (op : Int32) (a b : Int64) (hb : μ 0 38 = 0) : Ct E 0 0 0 mX12_reckon [.ref m, .int op, .long a, .long b] (mH h m μ l) (po (some (.long (rkV op a b))) (mH h m (up2 μ 0 38 (bI (rkD op b))) l)) := by
  refine Ct.of (by decide +kernel) (Nat.le_of_ble_eq_true rfl) ?_
  have same : rkD op b = false → up2 μ 0 38 (bI (rkD op b)) = μ := by
    intro e; rw [e, show bI false = μ 0 38 from hb.symm, up2_self]
  refine r_iload_n (pc := 0) 1 dX12_reckon_0 rfl ?_
  by_cases hw : op.toInt < 20 ∨ 26 < op.toInt
  · refine r_tableOut (pc := 1) (tgt := 149) dX12_reckon_1 (hw) (by decide) ?_
    have hne : ∀ k : Int32, 20 ≤ k.toInt ∧ k.toInt ≤ 26 → ¬ op = k := by rintro k hk rfl; omega
    have eD : rkD op b = false := decide_eq_false (fun q => q.1.elim (hne 23 (by decide)) (hne 24 (by decide)))
    have eV : rkV op a b = if a = b then 1 else 0 := by
      unfold rkV
      rw [if_neg (hne 20 (by decide)), if_neg (hne 21 (by decide)), if_neg (hne 22 (by decide)), if_neg (hne 23 (by decide)), if_neg (hne 24 (by decide)), if_neg (hne 25 (by decide)), if_neg (hne 26 (by decide))]
    refine r_lload_n (pc := 149) 2 dX12_reckon_149 rfl ?_
    refine r_lload (pc := 150) 3 dX12_reckon_150 rfl ?_
    refine r_lcmp_ne (pc := 152) (tgt := 160) dX12_reckon_152 dX12_reckon_153 (by decide) (fun c_152 => ?_) (fun c_152 => ?_)
    · refine r_lconst (pc := 160) (0) dX12_reckon_160 rfl ?_
      refine r_lret (pc := 161) rfl ?_ (Nat.le_of_ble_eq_true rfl) (Nat.le_of_ble_eq_true rfl) dX12_reckon_161
      refine ⟨by rw [eV, if_neg c_152], ?_⟩
      rw [same eD]
    · refine r_lconst (pc := 156) (1) dX12_reckon_156 rfl ?_
      refine r_goto (pc := 157) (tgt := 161) dX12_reckon_157 (by decide) ?_
      refine r_lret (pc := 161) rfl ?_ (Nat.le_of_ble_eq_true rfl) (Nat.le_of_ble_eq_true rfl) dX12_reckon_161
      refine ⟨by rw [eV, if_pos c_152], ?_⟩
      rw [same eD]
  · have hop : ∃ j, j < 7 ∧ op = nI (20 + j) := by
      refine ⟨(op.toInt - 20).toNat, by omega, ?_⟩
      apply Int32.toInt_inj.mp
      rw [nI_toInt (by omega)]; omega
    obtain ⟨j, hj, rfl⟩ := hop
    rcases (show j = 0 ∨ j = 1 ∨ j = 2 ∨ j = 3 ∨ j = 4 ∨ j = 5 ∨ j = 6 by omega) with rfl | rfl | rfl | rfl | rfl | rfl | rfl
    · have eD : rkD (nI (20 + 0)) b = false := decide_eq_false (fun q => absurd q.1 (by decide))
      refine r_tableIn (pc := 1) (off := 43) (tgt := 44) dX12_reckon_1 (by decide) (by decide) (by decide +kernel) (by decide) ?_
      refine r_lload_n (pc := 44) 2 dX12_reckon_44 rfl ?_
      refine r_lload (pc := 45) 3 dX12_reckon_45 rfl ?_
      refine r_ladd (pc := 47) dX12_reckon_47 ?_
      refine r_lret (pc := 48) rfl ?_ (Nat.le_of_ble_eq_true rfl) (Nat.le_of_ble_eq_true rfl) dX12_reckon_48
      exact ⟨rfl, by rw [same eD]⟩
    · have eD : rkD (nI (20 + 1)) b = false := decide_eq_false (fun q => absurd q.1 (by decide))
      refine r_tableIn (pc := 1) (off := 48) (tgt := 49) dX12_reckon_1 (by decide) (by decide) (by decide +kernel) (by decide) ?_
      refine r_lload_n (pc := 49) 2 dX12_reckon_49 rfl ?_
      refine r_lload (pc := 50) 3 dX12_reckon_50 rfl ?_
      refine r_lsub (pc := 52) dX12_reckon_52 ?_
      refine r_lret (pc := 53) rfl ?_ (Nat.le_of_ble_eq_true rfl) (Nat.le_of_ble_eq_true rfl) dX12_reckon_53
      exact ⟨rfl, by rw [same eD]⟩
    · have eD : rkD (nI (20 + 2)) b = false := decide_eq_false (fun q => absurd q.1 (by decide))
      refine r_tableIn (pc := 1) (off := 53) (tgt := 54) dX12_reckon_1 (by decide) (by decide) (by decide +kernel) (by decide) ?_
      refine r_lload_n (pc := 54) 2 dX12_reckon_54 rfl ?_
      refine r_lload (pc := 55) 3 dX12_reckon_55 rfl ?_
      refine r_lmul (pc := 57) dX12_reckon_57 ?_
      refine r_lret (pc := 58) rfl ?_ (Nat.le_of_ble_eq_true rfl) (Nat.le_of_ble_eq_true rfl) dX12_reckon_58
      exact ⟨rfl, by rw [same eD]⟩
    · refine r_tableIn (pc := 1) (off := 58) (tgt := 59) dX12_reckon_1 (by decide) (by decide) (by decide +kernel) (by decide) ?_
      refine r_aload_n (pc := 59) 0 dX12_reckon_59 rfl ?_
      refine r_lload (pc := 60) 3 dX12_reckon_60 rfl ?_
      refine r_lconst (pc := 62) (0) dX12_reckon_62 rfl ?_
      refine r_lcmp_ne (pc := 63) (tgt := 71) dX12_reckon_63 dX12_reckon_64 (by decide) (fun c_63 => ?_) (fun c_63 => ?_)
      · have eD : rkD (nI (20 + 3)) b = false := decide_eq_false (fun q => c_63 q.2)
        refine r_iconst (pc := 71) (0) dX12_reckon_71 rfl ?_
        refine q_putZ (pc := 72) fp_X12_413 hm (by decide) dX12_reckon_72 ?_
        refine r_aload_n (pc := 75) 0 dX12_reckon_75 rfl ?_
        refine q_getI (pc := 76) fl_X12_413 hm dX12_reckon_76 ?_
        rw [up2_at]
        refine r_if_eq (pc := 79) (tgt := 86) dX12_reckon_79 (by decide) (fun c_79 => ?_) (fun c_79 => ?_)
        · refine r_lload_n (pc := 86) 2 dX12_reckon_86 rfl ?_
          refine r_lload (pc := 87) 3 dX12_reckon_87 rfl ?_
          refine r_ldiv (pc := 89) dX12_reckon_89 c_63 ?_
          refine r_lret (pc := 90) rfl ?_ (Nat.le_of_ble_eq_true rfl) (Nat.le_of_ble_eq_true rfl) dX12_reckon_90
          refine ⟨?_, by rw [eD]; rfl⟩
          show _ = some (Value.long (if b = 0 then 0 else a / b))
          rw [if_neg c_63]
        · exact absurd rfl c_79
      · have eD : rkD (nI (20 + 3)) b = true := decide_eq_true ⟨Or.inl rfl, c_63⟩
        refine r_iconst (pc := 67) (1) dX12_reckon_67 rfl ?_
        refine r_goto (pc := 68) (tgt := 72) dX12_reckon_68 (by decide) ?_
        refine q_putZ (pc := 72) fp_X12_413 hm (by decide) dX12_reckon_72 ?_
        refine r_aload_n (pc := 75) 0 dX12_reckon_75 rfl ?_
        refine q_getI (pc := 76) fl_X12_413 hm dX12_reckon_76 ?_
        rw [up2_at]
        refine r_if_eq (pc := 79) (tgt := 86) dX12_reckon_79 (by decide) (fun c_79 => ?_) (fun c_79 => ?_)
        · exact absurd c_79 (by decide)
        · refine r_lconst (pc := 82) (0) dX12_reckon_82 rfl ?_
          refine r_goto (pc := 83) (tgt := 90) dX12_reckon_83 (by decide) ?_
          refine r_lret (pc := 90) rfl ?_ (Nat.le_of_ble_eq_true rfl) (Nat.le_of_ble_eq_true rfl) dX12_reckon_90
          refine ⟨?_, by rw [eD]; rfl⟩
          show _ = some (Value.long (if b = 0 then 0 else a / b))
          rw [if_pos c_63]
    · refine r_tableIn (pc := 1) (off := 90) (tgt := 91) dX12_reckon_1 (by decide) (by decide) (by decide +kernel) (by decide) ?_
      refine r_aload_n (pc := 91) 0 dX12_reckon_91 rfl ?_
      refine r_lload (pc := 92) 3 dX12_reckon_92 rfl ?_
      refine r_lconst (pc := 94) (0) dX12_reckon_94 rfl ?_
      refine r_lcmp_ne (pc := 95) (tgt := 103) dX12_reckon_95 dX12_reckon_96 (by decide) (fun c_95 => ?_) (fun c_95 => ?_)
      · have eD : rkD (nI (20 + 4)) b = false := decide_eq_false (fun q => c_95 q.2)
        refine r_iconst (pc := 103) (0) dX12_reckon_103 rfl ?_
        refine q_putZ (pc := 104) fp_X12_413 hm (by decide) dX12_reckon_104 ?_
        refine r_aload_n (pc := 107) 0 dX12_reckon_107 rfl ?_
        refine q_getI (pc := 108) fl_X12_413 hm dX12_reckon_108 ?_
        rw [up2_at]
        refine r_if_eq (pc := 111) (tgt := 118) dX12_reckon_111 (by decide) (fun c_111 => ?_) (fun c_111 => ?_)
        · refine r_lload_n (pc := 118) 2 dX12_reckon_118 rfl ?_
          refine r_lload (pc := 119) 3 dX12_reckon_119 rfl ?_
          refine r_lrem (pc := 121) dX12_reckon_121 c_95 ?_
          refine r_lret (pc := 122) rfl ?_ (Nat.le_of_ble_eq_true rfl) (Nat.le_of_ble_eq_true rfl) dX12_reckon_122
          refine ⟨?_, by rw [eD]; rfl⟩
          show _ = some (Value.long (if b = 0 then 0 else a - a / b * b))
          rw [if_neg c_95]
        · exact absurd rfl c_111
      · have eD : rkD (nI (20 + 4)) b = true := decide_eq_true ⟨Or.inr rfl, c_95⟩
        refine r_iconst (pc := 99) (1) dX12_reckon_99 rfl ?_
        refine r_goto (pc := 100) (tgt := 104) dX12_reckon_100 (by decide) ?_
        refine q_putZ (pc := 104) fp_X12_413 hm (by decide) dX12_reckon_104 ?_
        refine r_aload_n (pc := 107) 0 dX12_reckon_107 rfl ?_
        refine q_getI (pc := 108) fl_X12_413 hm dX12_reckon_108 ?_
        rw [up2_at]
        refine r_if_eq (pc := 111) (tgt := 118) dX12_reckon_111 (by decide) (fun c_111 => ?_) (fun c_111 => ?_)
        · exact absurd c_111 (by decide)
        · refine r_lconst (pc := 114) (0) dX12_reckon_114 rfl ?_
          refine r_goto (pc := 115) (tgt := 122) dX12_reckon_115 (by decide) ?_
          refine r_lret (pc := 122) rfl ?_ (Nat.le_of_ble_eq_true rfl) (Nat.le_of_ble_eq_true rfl) dX12_reckon_122
          refine ⟨?_, by rw [eD]; rfl⟩
          show _ = some (Value.long (if b = 0 then 0 else a - a / b * b))
          rw [if_pos c_95]
    · have eD : rkD (nI (20 + 5)) b = false := decide_eq_false (fun q => absurd q.1 (by decide))
      refine r_tableIn (pc := 1) (off := 122) (tgt := 123) dX12_reckon_1 (by decide) (by decide) (by decide +kernel) (by decide) ?_
      refine r_lload_n (pc := 123) 2 dX12_reckon_123 rfl ?_
      refine r_lload (pc := 124) 3 dX12_reckon_124 rfl ?_
      refine r_lcmp_ge (pc := 126) (tgt := 134) dX12_reckon_126 dX12_reckon_127 (by decide) (fun c_126 => ?_) (fun c_126 => ?_)
      · refine r_lconst (pc := 134) (0) dX12_reckon_134 rfl ?_
        refine r_lret (pc := 135) rfl ?_ (Nat.le_of_ble_eq_true rfl) (Nat.le_of_ble_eq_true rfl) dX12_reckon_135
        refine ⟨?_, by rw [same eD]⟩
        show _ = some (Value.long (if a < b then 1 else 0))
        rw [if_neg (Int64.not_lt.mpr c_126)]
      · refine r_lconst (pc := 130) (1) dX12_reckon_130 rfl ?_
        refine r_goto (pc := 131) (tgt := 135) dX12_reckon_131 (by decide) ?_
        refine r_lret (pc := 135) rfl ?_ (Nat.le_of_ble_eq_true rfl) (Nat.le_of_ble_eq_true rfl) dX12_reckon_135
        refine ⟨?_, by rw [same eD]⟩
        show _ = some (Value.long (if a < b then 1 else 0))
        rw [if_pos (Int64.not_le.mp c_126)]
    · have eD : rkD (nI (20 + 6)) b = false := decide_eq_false (fun q => absurd q.1 (by decide))
      refine r_tableIn (pc := 1) (off := 135) (tgt := 136) dX12_reckon_1 (by decide) (by decide) (by decide +kernel) (by decide) ?_
      refine r_lload_n (pc := 136) 2 dX12_reckon_136 rfl ?_
      refine r_lload (pc := 137) 3 dX12_reckon_137 rfl ?_
      refine r_lcmp_le (pc := 139) (tgt := 147) dX12_reckon_139 dX12_reckon_140 (by decide) (fun c_139 => ?_) (fun c_139 => ?_)
      · refine r_lconst (pc := 147) (0) dX12_reckon_147 rfl ?_
        refine r_lret (pc := 148) rfl ?_ (Nat.le_of_ble_eq_true rfl) (Nat.le_of_ble_eq_true rfl) dX12_reckon_148
        refine ⟨?_, by rw [same eD]⟩
        show _ = some (Value.long (if b < a then 1 else 0))
        rw [if_neg (Int64.not_lt.mpr c_139)]
      · refine r_lconst (pc := 143) (1) dX12_reckon_143 rfl ?_
        refine r_goto (pc := 144) (tgt := 148) dX12_reckon_144 (by decide) ?_
        refine r_lret (pc := 148) rfl ?_ (Nat.le_of_ble_eq_true rfl) (Nat.le_of_ble_eq_true rfl) dX12_reckon_148
        refine ⟨?_, by rw [same eD]⟩
        show _ = some (Value.long (if b < a then 1 else 0))
        rw [if_pos (Int64.not_le.mp c_139)]
/-- one instruction of the code: stuck, or whether it broke, and the next place, height and pile -/
def mSt (ops args : Nat → Int32) (lf : Int32 → Int32 → Option Int64) (k n : Nat) (f : Nat → Int64) : Option (Bool × Nat × Nat × (Nat → Int64)) :=
  if ops k < 20 then (if n < 400 then (lf (ops k) (args k)).map (fun v => (false, k + 1, n + 1, va_up f n v)) else none)
  else if ops k < 28 then (if 2 ≤ n ∧ n ≤ 400 then some (rkB (ops k) (f (n - 2)) (f (n - 1)), k + 1, n - 1, va_up f (n - 2) (rkV (ops k) (f (n - 2)) (f (n - 1)))) else none)
  else if ops k = 28 then (if 1 ≤ n ∧ n ≤ 400 then some (false, k + 1, n, va_up f (n - 1) (1 - f (n - 1))) else none)
  else if 1 ≤ n ∧ n ≤ 400 then (if f (n - 1) = (if ops k = 29 then 0 else 1) then (if 0 ≤ args k then some (false, (args k).toNatClampNeg, n, f) else none) else some (false, k + 1, n - 1, f)) else none
def mRun (ops args : Nat → Int32) (lf : Int32 → Int32 → Option Int64) (b : Nat) : Nat → Nat → Nat → (Nat → Int64) → Option (Bool × Nat × (Nat → Int64))
  | 0, k, n, f => if k < b then none else some (false, n, f)
  | N + 1, k, n, f => if k < b then (match mSt ops args lf k n f with
      | none => none
      | some (true, _, n', f') => some (true, n', f')
      | some (false, k', n', f') => mRun ops args lf b N k' n' f') else some (false, n, f)
/-- the pile laid into the reference's memory -/
def rsL (l : La) (f : Nat → Int64) : La := fun o j => if o = 20 then f j else l o j
theorem rsL_self (l : La) : rsL l (l 20) = l := by
  funext o j; unfold rsL; split
  · next e => rw [e]
  · rfl
theorem rsL_up {l : La} {f : Nat → Int64} {j : Nat} {v : Int64} : up2 (rsL l f) 20 j v = rsL l (va_up f j v) := by
  funext o i; unfold up2 rsL va_up
  by_cases h1 : o = 20 <;> by_cases h2 : i = j <;> simp [h1, h2]
theorem rsL_20 {l : La} {f : Nat → Int64} : rsL l f 20 = f := by funext j; unfold rsL; rw [if_pos rfl]
theorem rsL_ne {l : La} {f : Nat → Int64} {o : Nat} (ho : o ≠ 20) : rsL l f o = l o := by funext j; unfold rsL; rw [if_neg ho]
/-- what a part comes to in a law, in an order -/
def lfL (e : Nat → Int64) (op arg : Int32) : Option Int64 := if op = 0 then some arg.toInt64 else if inN op 13 = true then some (e op.toNatClampNeg) else none
def lfO (r : Nat → Int32) (nw : Nat → Int64) (nc ns : Nat) (op arg : Int32) : Option Int64 :=
  if op = 0 then some arg.toInt64 else if op < 5 then (if inN op 5 = true then some (nw op.toNatClampNeg) else none)
  else if op = 7 then some (if inN arg ns = true then onesN (crewN r arg nc) 9 else -1).toInt64
  else if inN arg nc = true then (if op = 5 then some (r (8 + arg.toNatClampNeg)).toInt64 else some (r (26 + arg.toNatClampNeg)).toInt64) else some (-1)
end EVAL12
