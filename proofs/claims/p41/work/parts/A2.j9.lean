/-! load(): between 0.0 and 1.0 -/
theorem f_pow {c d A Bn Qp Qm Rp Rm X E : Nat} (fa : c * 2 ^ Qp = A * 2 ^ Qm) (fb : d * 2 ^ Rp = Bn * 2 ^ Rm) (hx : X + Rp + Qm = Qp + E + Rm) (hab : A ≤ Bn) : c * 2 ^ X ≤ 2 ^ E * d := by
  refine Nat.le_of_mul_le_mul_right (c := 2 ^ (Rp + Qm)) ?_ (Nat.two_pow_pos _)
  have e1 : c * 2 ^ X * 2 ^ (Rp + Qm) = A * 2 ^ (Qm + (E + Rm)) := by
    rw [Nat.mul_assoc, ← Nat.pow_add, show X + (Rp + Qm) = Qp + (E + Rm) by omega, Nat.pow_add, ← Nat.mul_assoc, fa, Nat.mul_assoc, ← Nat.pow_add]
  have e2 : 2 ^ E * d * 2 ^ (Rp + Qm) = Bn * 2 ^ (Qm + (E + Rm)) := by
    rw [Nat.mul_comm (2 ^ E) d, Nat.mul_assoc, ← Nat.pow_add, show E + (Rp + Qm) = Rp + (E + Qm) by omega, Nat.pow_add, ← Nat.mul_assoc, fb, Nat.mul_assoc, ← Nat.pow_add, show Rm + (E + Qm) = Qm + (E + Rm) by omega]
  rw [e1, e2]
  exact Nat.mul_le_mul_right _ hab
theorem f_qmin : Jvm.FP.Core.b64.qmin = -1074 := by decide
theorem f_one : Jvm.FP.Core.fits Jvm.FP.Core.b64 (.fin false (2 ^ 52) (-52)) := by
  rw [← Jvm.FP.Core.val64_dconst1]
  exact Jvm.FP.Core.val64_fits _
theorem f_le {s : Bool} {c d A Bn : Nat} {q r : Int} (fa : c * 2 ^ q.toNat = A * 2 ^ (-q).toNat) (fb : d * 2 ^ r.toNat = Bn * 2 ^ (-r).toNat) (hd : 0 < d) (hab : A ≤ Bn) : Jvm.FP.Core.zmag Jvm.FP.Core.b64 (Jvm.FP.Core.roundRatio Jvm.FP.Core.b64 s c d (q - r)) ≤ Jvm.FP.Core.zmag Jvm.FP.Core.b64 (.fin false (2 ^ 52) (-52)) := by
  have hq := f_qmin
  obtain ⟨e0, h1, h2⟩ : ∃ e0 : Int, e0 ≤ -1074 ∧ e0 ≤ q - r := by
    by_cases h : q - r ≤ -1074
    · exact ⟨q - r, h, Int.le_refl _⟩
    · exact ⟨-1074, Int.le_refl _, by omega⟩
  refine Jvm.FP.Core.zmag_roundRatio_le Jvm.FP.Core.good_b64 (e0 := e0) hd f_one (by intro h; cases h) (by rw [hq]; exact h1) h2 ?_
  have hz : Jvm.FP.Core.zmag Jvm.FP.Core.b64 (.fin false (2 ^ 52) (-52)) = 2 ^ 52 * 2 ^ ((-52 : Int) - Jvm.FP.Core.b64.qmin).toNat := rfl
  rw [hz]
  unfold Jvm.FP.Core.inUnits
  rw [hq, show ((-52 : Int) - -1074).toNat = 1022 from rfl]
  have hp : (2 ^ 52 * 2 ^ 1022 : Nat) * 2 ^ (-1074 - e0).toNat * d = 2 ^ (-e0).toNat * d := by
    rw [← Nat.pow_add, ← Nat.pow_add, show 52 + 1022 + (-1074 - e0).toNat = (-e0).toNat by omega]
  rw [hp]
  exact f_pow fa fb (by omega) hab
theorem f_sgn {c k a m : Nat} (h : Jvm.FP.Core.signed true (c * 2 ^ k) = (a : Int) * ((2 ^ m : Nat) : Int)) : c = 0 := by
  have h1 : -((c * 2 ^ k : Nat) : Int) = (a : Int) * ((2 ^ m : Nat) : Int) := h
  have h2 : (0 : Int) ≤ (a : Int) * ((2 ^ m : Nat) : Int) := Int.mul_nonneg (Int.natCast_nonneg _) (Int.natCast_nonneg _)
  have h3 : c * 2 ^ k = 0 := by omega
  rcases Nat.mul_eq_zero.mp h3 with h4 | h4
  · exact h4
  · have := Nat.two_pow_pos k
    omega
theorem f_div {a b : Int32} (ha : 0 ≤ a.toInt) (hab : a.toInt ≤ b.toInt) (hb : 0 < b.toInt) : 0 ≤ Jvm.FP.Core.zval Jvm.FP.Core.b64 (Jvm.FP.Core.val64 (FP.ddiv (FP.i2d a) (FP.i2d b))) ∧ Jvm.FP.Core.zval Jvm.FP.Core.b64 (Jvm.FP.Core.val64 (FP.ddiv (FP.i2d a) (FP.i2d b))) ≤ Jvm.FP.Core.zmag Jvm.FP.Core.b64 (.fin false (2 ^ 52) (-52)) ∧ Jvm.FP.Core.val64 (FP.ddiv (FP.i2d a) (FP.i2d b)) ≠ .nan := by
  have wa : Jvm.FP.Core.Whole a.toInt (Jvm.FP.Core.val64 (Jvm.FP.Core.i2d a)) := Jvm.FP.Core.i2d_int a
  have wb : Jvm.FP.Core.Whole b.toInt (Jvm.FP.Core.val64 (Jvm.FP.Core.i2d b)) := Jvm.FP.Core.i2d_int b
  have eD : Jvm.FP.Core.val64 (FP.ddiv (FP.i2d a) (FP.i2d b)) = Jvm.FP.Core.quotient Jvm.FP.Core.b64 (Jvm.FP.Core.val64 (Jvm.FP.Core.i2d a)) (Jvm.FP.Core.val64 (Jvm.FP.Core.i2d b)) := Jvm.FP.Core.val64_ddiv _ _
  rw [eD]
  generalize Jvm.FP.Core.val64 (Jvm.FP.Core.i2d a) = x at wa
  generalize Jvm.FP.Core.val64 (Jvm.FP.Core.i2d b) = y at wb
  have na : a.toInt = ((a.toInt.toNat : Nat) : Int) := by omega
  have nb : b.toInt = ((b.toInt.toNat : Nat) : Int) := by omega
  cases x with
  | nan => exact absurd wa (by intro h; exact h)
  | inf s => exact absurd wa (by intro h; exact h)
  | fin s c q =>
    cases y with
    | nan => exact absurd wb (by intro h; exact h)
    | inf s => exact absurd wb (by intro h; exact h)
    | fin t d r =>
      have wa1 : Jvm.FP.Core.signed s (c * 2 ^ q.toNat) = a.toInt * ((2 ^ (-q).toNat : Nat) : Int) := wa
      have wb1 : Jvm.FP.Core.signed t (d * 2 ^ r.toNat) = b.toInt * ((2 ^ (-r).toNat : Nat) : Int) := wb
      rw [na] at wa1
      rw [nb] at wb1
      have hp := Nat.two_pow_pos (-r).toNat
      have hb2 : 0 < b.toInt.toNat * 2 ^ (-r).toNat := Nat.mul_pos (by omega) hp
      have ht : t = false := by
        cases t
        · rfl
        · exfalso
          have hd0 := f_sgn wb1
          rw [hd0, Nat.zero_mul] at wb1
          have w2 : (0 : Int) = ((b.toInt.toNat * 2 ^ (-r).toNat : Nat) : Int) := by rw [Int.natCast_mul]; exact wb1
          omega
      subst ht
      have fb : d * 2 ^ r.toNat = b.toInt.toNat * 2 ^ (-r).toNat := by
        have w2 : ((d * 2 ^ r.toNat : Nat) : Int) = ((b.toInt.toNat * 2 ^ (-r).toNat : Nat) : Int) := by rw [Int.natCast_mul (b.toInt.toNat)]; exact wb1
        exact Int.ofNat_inj.mp w2
      have hd : 0 < d := by
        rcases Nat.eq_zero_or_pos d with h | h
        · rw [h, Nat.zero_mul] at fb
          omega
        · exact h
      have e2 : Jvm.FP.Core.quotient Jvm.FP.Core.b64 (.fin s c q) (.fin false d r) = Jvm.FP.Core.roundRatio Jvm.FP.Core.b64 (s != false) c d (q - r) := by
        show (if d = 0 then _ else _) = _
        rw [if_neg (by omega)]
      rw [e2]
      refine ⟨?_, ?_, Jvm.FP.Core.roundRatio_ne_nan _ _ _ _ _⟩
      · unfold Jvm.FP.Core.zval
        rw [Jvm.FP.Core.sgn_roundRatio]
        cases s
        · exact Int.natCast_nonneg _
        · have hc := f_sgn wa1
          subst hc
          have : Jvm.FP.Core.roundRatio Jvm.FP.Core.b64 (true != false) 0 d (q - r) = .fin true 0 Jvm.FP.Core.b64.qmin := rfl
          rw [this]
          show 0 ≤ Jvm.FP.Core.signed true (0 * _)
          rw [Nat.zero_mul]
          exact Int.le_refl _
      · unfold Jvm.FP.Core.zval
        rw [Jvm.FP.Core.sgn_roundRatio]
        cases s
        · have fa : c * 2 ^ q.toNat = a.toInt.toNat * 2 ^ (-q).toNat := by
            have w2 : ((c * 2 ^ q.toNat : Nat) : Int) = ((a.toInt.toNat * 2 ^ (-q).toNat : Nat) : Int) := by rw [Int.natCast_mul (a.toInt.toNat)]; exact wa1
            exact Int.ofNat_inj.mp w2
          exact Int.ofNat_le.mpr (f_le fa fb hd (by omega))
        · show -((_ : Nat) : Int) ≤ _
          omega
theorem f_cmp {v : UInt64} (h : 0 ≤ Jvm.FP.Core.zval Jvm.FP.Core.b64 (Jvm.FP.Core.val64 v) ∧ Jvm.FP.Core.zval Jvm.FP.Core.b64 (Jvm.FP.Core.val64 v) ≤ Jvm.FP.Core.zmag Jvm.FP.Core.b64 (.fin false (2 ^ 52) (-52)) ∧ Jvm.FP.Core.val64 v ≠ .nan) : ¬ Op.cmpValue (FP.dcmp v 0) .l < 0 ∧ ¬ 0 < Op.cmpValue (FP.dcmp v FP.dconst1) .g := by
  obtain ⟨h1, h2, h3⟩ := h
  have z0 : Jvm.FP.Core.zval Jvm.FP.Core.b64 (Jvm.FP.Core.val64 0) = 0 := Jvm.FP.Core.zval64_zero
  have n0 : Jvm.FP.Core.val64 0 ≠ .nan := by rw [Jvm.FP.Core.val64_zero]; intro h; cases h
  have n1 : Jvm.FP.Core.val64 FP.dconst1 ≠ .nan := by
    have e : Jvm.FP.Core.val64 FP.dconst1 = .fin false (2 ^ 52) (-52) := Jvm.FP.Core.val64_dconst1
    rw [e]; intro h; cases h
  have z1 : Jvm.FP.Core.zval Jvm.FP.Core.b64 (Jvm.FP.Core.val64 FP.dconst1) = Jvm.FP.Core.zmag Jvm.FP.Core.b64 (.fin false (2 ^ 52) (-52)) := by
    have e : Jvm.FP.Core.val64 FP.dconst1 = .fin false (2 ^ 52) (-52) := Jvm.FP.Core.val64_dconst1
    rw [e]
    rfl
  constructor
  · have g : Jvm.FP.Core.dcmp v 0 = some .gt ∨ Jvm.FP.Core.dcmp v 0 = some .eq := Jvm.FP.Core.dcmp_ge.mpr ⟨h3, n0, by rw [z0]; exact h1⟩
    have g' : FP.dcmp v 0 = some .gt ∨ FP.dcmp v 0 = some .eq := g
    rcases g' with g' | g' <;> rw [g'] <;> decide
  · have g : Jvm.FP.Core.dcmp v FP.dconst1 = some .lt ∨ Jvm.FP.Core.dcmp v FP.dconst1 = some .eq := Jvm.FP.Core.dcmp_le.mpr ⟨h3, n1, by rw [z1]; exact h2⟩
    have g' : FP.dcmp v FP.dconst1 = some .lt ∨ FP.dcmp v FP.dconst1 = some .eq := g
    rcases g' with g' | g' <;> rw [g'] <;> decide
theorem k_load {n K B : Nat} {A M : zSg} (h : zJT n K B A M) (hK : K ≤ 190000) : ¬ Op.cmpValue (FP.dcmp (mF_load M) 0) .l < 0 ∧ ¬ 0 < Op.cmpValue (FP.dcmp (mF_load M) FP.dconst1) .g := by
  have hn := zJT_n h
  have hs := j_sm hn h.2.1 (by have := zI_K h.1.1; omega)
  have h5 : zsm M n = (M 0 13).toInt + 0 := h.2.1.2.2.2.2.1
  have hd : (M 0 13).toInt ≤ (M 0 14).toInt := h.2.2
  unfold mF_load
  by_cases c : M 0 14 = 0
  · rw [if_pos c]
    exact ⟨by decide +kernel, by decide +kernel⟩
  · rw [if_neg c]
    have : (M 0 14).toInt ≠ 0 := fun e => c (Int32.toInt_inj.mp e)
    exact f_cmp (f_div (by omega) hd (by omega))
