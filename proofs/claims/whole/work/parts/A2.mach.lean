/-! the machine that reads: steps put together -/
section MACH
theorem fr_le {d D mc ms : Nat} (hd : d + 1 ≤ D) : d + 1 ≤ (Rm D mc ms).frames := hd
theorem lo_le {d D mc ms k : Nat} (hk : k ≤ 21) (hd : d + 1 ≤ D) : 8 + (k + 11) + 40 * d ≤ (Rm D mc ms).locals := by
  show 8 + (k + 11) + 40 * d ≤ 40 * D
  omega
abbrev Mcf : Type := (Nat → Int64) × (Nat → Int64) × Bool × (Nat → Tk) × Bool
def aS (mc : Mcf) (st : AS) : Option (Nat ⊕ AS) := asS mc.1 mc.2.1 mc.2.2.1 mc.2.2.2.1 mc.2.2.2.2 st
def Sps (mc : Mcf) : Nat → AS → AS → Prop
  | 0, a, b => a = b
  | N + 1, a, b => ¬ a.1 = 4 ∧ ∃ z, aS mc a = some (.inr z) ∧ Sps mc N z b
theorem Sps_tr {mc : Mcf} {b d : AS} {M : Nat} (h2 : Sps mc M b d) : ∀ (N : Nat) (a : AS), Sps mc N a b → Sps mc (N + M) a d
  | 0, a, h1 => by rw [Nat.zero_add]; cases h1; exact h2
  | N + 1, a, h1 => by
    obtain ⟨g1, z, g2, g3⟩ := h1
    rw [Nat.add_right_comm]
    exact ⟨g1, z, g2, Sps_tr h2 N z g3⟩
/-- one step or more -/
def Gos (mc : Mcf) (a b : AS) : Prop := ∃ N, Sps mc (N + 1) a b
def Fls (mc : Mcf) (a : AS) (j : Nat) : Prop := ∃ N b, Sps mc N a b ∧ ¬ b.1 = 4 ∧ aS mc b = some (.inl j)
theorem Gos.one {mc : Mcf} {a b : AS} (h4 : ¬ a.1 = 4) (hs : aS mc a = some (.inr b)) : Gos mc a b := ⟨0, h4, b, hs, rfl⟩
theorem Gos.tr {mc : Mcf} {a b d : AS} (h1 : Gos mc a b) (h2 : Gos mc b d) : Gos mc a d := by
  obtain ⟨N, g1⟩ := h1
  obtain ⟨M, g2⟩ := h2
  exact ⟨N + 1 + M, Sps_tr g2 _ _ g1⟩
theorem Fls.one {mc : Mcf} {a : AS} {j : Nat} (h4 : ¬ a.1 = 4) (hs : aS mc a = some (.inl j)) : Fls mc a j := ⟨0, a, rfl, h4, hs⟩
theorem Gos.fl {mc : Mcf} {a b : AS} {j : Nat} (h1 : Gos mc a b) (h2 : Fls mc b j) : Fls mc a j := by
  obtain ⟨N, g1⟩ := h1
  obtain ⟨M, d, g2, g3, g4⟩ := h2
  exact ⟨N + 1 + M, d, Sps_tr g2 _ _ g1, g3, g4⟩
theorem Sps_R {mc : Mcf} {b : AS} {M : Nat} {q : Nat ⊕ AS} (h2 : asR mc.1 mc.2.1 mc.2.2.1 mc.2.2.2.1 mc.2.2.2.2 M b = some q) : ∀ (N : Nat) (a : AS), Sps mc N a b → asR mc.1 mc.2.1 mc.2.2.1 mc.2.2.2.1 mc.2.2.2.2 (N + M) a = some q
  | 0, a, h1 => by rw [Nat.zero_add]; cases h1; exact h2
  | N + 1, a, h1 => by
    obtain ⟨g1, z, g2, g3⟩ := h1
    rw [Nat.add_right_comm, asR, if_neg g1, show asS mc.1 mc.2.1 mc.2.2.1 mc.2.2.2.1 mc.2.2.2.2 a = _ from g2]
    exact Sps_R h2 N z g3
theorem Fls.R {mc : Mcf} {a : AS} {j : Nat} (hf : Fls mc a j) : ∃ N, asR mc.1 mc.2.1 mc.2.2.1 mc.2.2.2.1 mc.2.2.2.2 N a = some (.inl j) := by
  obtain ⟨N, b, g1, g2, g3⟩ := hf
  refine ⟨N + 1, Sps_R ?_ N a g1⟩
  rw [asR, if_neg g2, show asS mc.1 mc.2.1 mc.2.2.1 mc.2.2.2.1 mc.2.2.2.2 b = _ from g3]
/-- from turn 0 the machine goes as from turn 1, where no "not" and no bracket stands -/
theorem Gos.of1 {mc : Mcf} {i lv d : Nat} {pl : List PE} {s s' : Sm} {b : AS} (h1 : tW (mc.2.2.2.1 i) 14836 = false) (h2 : tS (mc.2.2.2.1 i) 40 = false) (hg : Gos mc (1, i, lv, d, pl, s) b) : Gos mc (0, i, lv, d, pl, s') b := by
  obtain ⟨N, -, z, g2, g3⟩ := hg
  refine ⟨N, (by show ¬ (0 : Int32) = 4; decide), z, ?_, g3⟩
  rw [← g2]
  show rplA mc.1 mc.2.1 mc.2.2.1 mc.2.2.2.1 i lv d pl = rpA mc.1 mc.2.1 mc.2.2.1 mc.2.2.2.1 i lv d pl
  unfold rplA
  rw [h1, h2, if_neg (by decide), if_neg (by decide)]
theorem Fls.of1 {mc : Mcf} {i lv d j : Nat} {pl : List PE} {s s' : Sm} (h1 : tW (mc.2.2.2.1 i) 14836 = false) (h2 : tS (mc.2.2.2.1 i) 40 = false) (hg : Fls mc (1, i, lv, d, pl, s) j) : Fls mc (0, i, lv, d, pl, s') j := by
  have key : aS mc (0, i, lv, d, pl, s') = aS mc (1, i, lv, d, pl, s) := by
    show rplA mc.1 mc.2.1 mc.2.2.1 mc.2.2.2.1 i lv d pl = rpA mc.1 mc.2.1 mc.2.2.1 mc.2.2.2.1 i lv d pl
    unfold rplA
    rw [h1, h2, if_neg (by decide), if_neg (by decide)]
  obtain ⟨N, b, g1, g2, g3⟩ := hg
  cases N with
  | zero =>
    have e : (1, i, lv, d, pl, s) = b := g1
    subst e
    exact Fls.one (by show ¬ (0 : Int32) = 4; decide) (key.trans g3)
  | succ N =>
    obtain ⟨-, z, w2, w3⟩ := g1
    exact ⟨N + 1, b, ⟨(by show ¬ (0 : Int32) = 4; decide), z, key.trans w2, w3⟩, g2, g3⟩
/-- what lies on top of the pile binds less than so much -/
def Tb (v : Int32) : List PE → Prop
  | [] => True
  | y :: _ => bndF y.1 < v
theorem Tb.st {v : Int32} {pl : List PE} (hb : Tb v pl) (s : Sm) : stlA v pl s = (pl, s) := by
  cases pl with
  | nil => rfl
  | cons y r => rw [stlA, if_pos (show bndF y.1 < v from hb)]
theorem Tb.mono {v w : Int32} {pl : List PE} (hb : Tb v pl) (hv : v ≤ w) : Tb w pl := by
  cases pl with
  | nil => trivial
  | cons y r => exact Int32.lt_of_lt_of_le (show bndF y.1 < v from hb) hv
theorem Tb_cmp {pl : List PE} (hb : Tb 4 pl) : cmpA pl = false := by
  cases pl with
  | nil => rfl
  | cons y r =>
    have h1 : bndF y.1 < 4 := hb
    have h28 : (28 : Int32) ≤ y.1 := by
      apply Classical.byContradiction
      intro z
      unfold bndF at h1
      have n31 : ¬ (31 : Int32) ≤ y.1 := fun w => z (Int32.le_trans (by decide) w)
      have n30 : ¬ y.1 = 30 := fun w => z (by rw [w]; decide)
      have n29 : ¬ y.1 = 29 := fun w => z (by rw [w]; decide)
      have n28 : ¬ y.1 = 28 := fun w => z (by rw [w]; decide)
      rw [if_neg n31, if_neg n30, if_neg n29, if_neg n28] at h1
      split at h1
      · exact absurd h1 (by decide)
      · split at h1
        · exact absurd h1 (by decide)
        · exact absurd h1 (by decide)
    rw [cmpA, if_neg (fun w => absurd (Int32.le_trans h28 w.2) (by decide)), decide_eq_false (fun w => absurd (Int32.le_trans h28 w.2) (by decide))]
/-- a pile with what was read, as good as another, for what binds at most so much -/
def Ey (v : Int32) (P : List PE) (s2 : Sm) (pl : List PE) (s : Sm) : Prop := (∀ w, w ≤ v → stlA w P s2 = stlA w pl s) ∧ innA P = innA pl
theorem Ey.rf {v : Int32} {pl : List PE} {s : Sm} : Ey v pl s pl s := ⟨fun _ _ => rfl, rfl⟩
theorem Ey.mono {v w : Int32} {P pl : List PE} {s2 s : Sm} (he : Ey v P s2 pl s) (hw : w ≤ v) : Ey w P s2 pl s := ⟨fun u hu => he.1 u (Int32.le_trans hu hw), he.2⟩
theorem Ey.tr {v : Int32} {P Q pl : List PE} {s2 s1 s : Sm} (h1 : Ey v P s2 Q s1) (h2 : Ey v Q s1 pl s) : Ey v P s2 pl s := ⟨fun w hw => (h1.1 w hw).trans (h2.1 w hw), h1.2.trans h2.2⟩
theorem Ey.top {v : Int32} {y : PE} {pl : List PE} {s : Sm} (hv : v ≤ bndF y.1) (h31 : ¬ (31 : Int32) ≤ y.1) : Ey v (y :: pl) s pl (cmb y s) := by
  refine ⟨fun w hw => ?_, ?_⟩
  · rw [stlA, if_neg (Int32.not_lt.mpr (Int32.le_trans hw hv))]
  · rw [innA, if_neg h31]
def opO (o : Int32) : Prop := o = 20 ∨ o = 21 ∨ o = 22 ∨ o = 23 ∨ o = 24
theorem opO_31 {o : Int32} (ho : opO o) : ¬ (31 : Int32) ≤ o ∧ ¬ o = -1 ∧ ((20 : Int32) ≤ o ∧ o ≤ 24) := by
  rcases ho with rfl | rfl | rfl | rfl | rfl <;> decide
theorem cmp_op {o : Int32} (ho : opO o) {s : Sm} {pl : List PE} : cmpA ((o, s) :: pl) = cmpA pl := by rw [cmpA, if_pos (opO_31 ho).2.2]
theorem cmb_op {o : Int32} (ho : opO o) (s1 s2 : Sm) : cmb (o, s1) s2 = sBin o s1 s2 := by
  unfold cmb
  rcases ho with rfl | rfl | rfl | rfl | rfl <;> rfl
theorem cmb_cp {o : Int32} (ho : o = 25 ∨ o = 26 ∨ o = 27) (s1 s2 : Sm) : cmb (o, s1) s2 = sBin o s1 s2 := by
  unfold cmb
  rcases ho with rfl | rfl | rfl <;> rfl
/-- an operator is read behind a sum -/
theorem go_op {mc : Mcf} {i lv d : Nat} {P pl : List PE} {s2 s : Sm} {v : Int32} (ho : opO (sgnA (mc.2.2.2.1 i))) (he : Ey v P s2 pl s) (hv : bndF (sgnA (mc.2.2.2.1 i)) ≤ v) (ht : Tb (bndF (sgnA (mc.2.2.2.1 i))) pl) : Gos mc (3, i, lv, d, P, s2) (1, i + 1, lv, d, (sgnA (mc.2.2.2.1 i), s) :: pl, sZ) := by
  refine Gos.one (by show ¬ (3 : Int32) = 4; decide) ?_
  show bsA mc.2.2.2.1 mc.2.2.2.2 i lv d P s2 = _
  unfold bsA
  rw [if_pos (opO_31 ho).2.1, he.1 _ hv, ht.st]
theorem sNot2 (s : Sm) : sNot (sNot s) = s := by
  funext e
  unfold sNot
  cases hs : s e with
  | none => simp only [hs]
  | some v =>
    simp only [hs]
    congr 1
    apply Int64.toBitVec_inj.mp
    show (1 : BitVec 64) - (1 - v.toBitVec) = v.toBitVec
    bv_omega
theorem IsT.not {s : Sm} (hs : IsT s) : IsT (sNot s) := fun e v hv => by
  unfold sNot at hv
  cases hz : s e with
  | none => rw [hz] at hv; cases hv
  | some w =>
    rw [hz] at hv
    have e1 : 1 - w = v := Option.some.inj hv
    rcases hs e w hz with rfl | rfl
    · right; rw [← e1]; decide
    · left; rw [← e1]; decide
theorem IsT.leap {s1 s2 : Sm} {k : Int64} (h1 : IsT s1) (h2 : IsT s2) : IsT (sLeap k s1 s2) := fun e v hv => by
  unfold sLeap at hv
  cases hz : s1 e with
  | none => simp only [hz] at hv; cases hv
  | some w =>
    simp only [hz] at hv
    split at hv
    · have e1 : w = v := Option.some.inj hv
      rw [← e1]; exact h1 e w hz
    · exact h2 e v hv
theorem IsT.cmp {o : Int32} (ho : o = 25 ∨ o = 26 ∨ o = 27) (s1 s2 : Sm) : IsT (sBin o s1 s2) := fun e v hv => by
  unfold sBin at hv
  cases hz : s1 e with
  | none => simp only [hz] at hv; cases hv
  | some a =>
    simp only [hz] at hv
    cases hw : s2 e with
    | none => simp only [hw] at hv; cases hv
    | some c =>
      simp only [hw] at hv
      split at hv
      · cases hv
      · have e1 : rkV o a c = v := Option.some.inj hv
        rw [← e1]
        unfold rkV
        rcases ho with rfl | rfl | rfl
        · rw [if_neg (by decide), if_neg (by decide), if_neg (by decide), if_neg (by decide), if_neg (by decide), if_pos rfl]; split <;> simp
        · rw [if_neg (by decide), if_neg (by decide), if_neg (by decide), if_neg (by decide), if_neg (by decide), if_neg (by decide), if_pos rfl]; split <;> simp
        · rw [if_neg (by decide), if_neg (by decide), if_neg (by decide), if_neg (by decide), if_neg (by decide), if_neg (by decide), if_neg (by decide)]; split <;> simp
theorem Bd.bin {o : Int32} (s1 s2 : Sm) : Bd (sBin o s1 s2) := fun e he v hv => by
  unfold sBin at hv
  cases hz : s1 e with
  | none => simp only [hz] at hv; cases hv
  | some a =>
    simp only [hz] at hv
    cases hw : s2 e with
    | none => simp only [hw] at hv; cases hv
    | some c =>
      simp only [hw] at hv
      split at hv
      · cases hv
      · next hb =>
        have e1 : rkV o a c = v := Option.some.inj hv
        rw [e1.symm]
        have hb2 : rkB o a c = false := by
          cases hq : rkB o a c with
          | false => rfl
          | true => exact absurd hq hb
        unfold rkB at hb2
        rw [Bool.or_eq_false_iff] at hb2
        have hb3 : -1000000000 ≤ rkV o a c ∧ rkV o a c ≤ 1000000000 := by
          have := hb2.2
          rw [Bool.not_eq_false'] at this
          exact of_decide_eq_true this
        have q1 := Int64.le_iff_toInt_le.mp hb3.1
        have q2 := Int64.le_iff_toInt_le.mp hb3.2
        rw [show ((-1000000000 : Int64)).toInt = -1000000000 by decide] at q1
        rw [show ((1000000000 : Int64)).toInt = 1000000000 by decide] at q2
        omega
end MACH
