/-! The reference, ahead -/
theorem zk_ticks {M : zSg} {f : Nat} : ∀ (j : Nat) {M' M2 : zSg}, zk M M' → mF_ticks f j M' = some M2 → zk M M2
  | 0, _, _, h, hr => by cases hr; exact h
  | j + 1, M', M2, h, hr => by
    rw [mF_ticks] at hr
    cases hp : mF_tick f M' with
    | none => rw [hp] at hr; cases hr
    | some M3 => rw [hp] at hr; exact zk_ticks j (zk_tick h hp) hr
/-- done in how many ticks: k are gone, j are left -/
def mF_done (f : Nat) (t : Int32) : Nat → Nat → zSg → Option Int32
  | 0, k, M => some (if M 41 (ix t) = 6 then nI k else -1)
  | j + 1, k, M => if M 41 (ix t) = 6 then some (nI k) else (mF_tick f M).bind (mF_done f t j (k + 1))
theorem zjx {t : Int32} {k j : Nat} (h0 : 0 ≤ t.toInt) (h : k + j = ix t) (hj : 0 < j) : nI k < t := zlt_T h0 (by omega)
theorem zjx0 {t : Int32} {k : Nat} (h0 : 0 ≤ t.toInt) (h : k = ix t) : ¬ nI k < t := by subst h; exact zlt_F h0
theorem zjg {t : Int32} {k j : Nat} (h0 : 0 ≤ t.toInt) (h : k + j = ix t) : ¬ t < nI k := by
  have h1 := ztoInt h0
  have h2 := zrng t
  rw [Int32.lt_iff_toInt_lt, nI_toInt (by omega)]
  omega
theorem zjg1 {t : Int32} {k : Nat} (h0 : 0 ≤ t.toInt) (h9 : t.toInt < 100) (h : k = ix t + 1) : t < nI k := by
  have h1 := ztoInt h0
  rw [Int32.lt_iff_toInt_lt, nI_toInt (by omega)]
  omega
