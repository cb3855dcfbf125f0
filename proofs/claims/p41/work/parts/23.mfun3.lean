/-! The reference, on: going on with a program, taking -/
def zok6 (its n : Int32) : Bool := !(decide (its = 2) || decide (its = 3) || decide (its = 4) || decide (its = 5)) || (decide (0 ≤ n.toInt) && decide (n.toInt < 6))
def mF_goOn : Nat → zSg → Int32 → Int32 → Option (Bool × zSg)
  | 0, _, _, _ => none
  | f + 1, M, t, p =>
    if M 41 (ix t) = 2 then
      (if 0 ≤ (M 42 (ix t)).toInt ∧ (M 42 (ix t)).toInt < 16 then
        (if M (8 + ix t) (ix (M 42 (ix t))) = 0 then some (true, mF_runOne M t p (M (25 + ix t) (ix (M 42 (ix t)))))
        else if zok6 (M (8 + ix t) (ix (M 42 (ix t)))) (M (25 + ix t) (ix (M 42 (ix t)))) = true then mF_goOn f (mF_doStep M t (M (8 + ix t) (ix (M 42 (ix t)))) (M (25 + ix t) (ix (M 42 (ix t))))) t p else none)
      else none)
    else some (false, M)
theorem zok6_of {its n : Int32} (h : zok6 its n = true) : its = 2 ∨ its = 3 ∨ its = 4 ∨ its = 5 → vp_in n 6 := by
  intro h2
  unfold zok6 at h
  simp only [Bool.or_eq_true, Bool.not_eq_true', Bool.and_eq_true, decide_eq_true_eq, Bool.or_eq_false_iff, decide_eq_false_iff_not] at h
  rcases h with ⟨⟨⟨h3, h4⟩, h5⟩, h6⟩ | h
  · rcases h2 with h2 | h2 | h2 | h2
    · exact absurd h2 h3
    · exact absurd h2 h4
    · exact absurd h2 h5
    · exact absurd h2 h6
  · exact zin_i ⟨h.1, h.2⟩
theorem zdec {x : Int32} {b : Int} (h : zr1 x 0 b) (h0 : ¬ x = 0) : zr1 (x - 1) 0 b := by
  have h1 := h.1
  have h2 := h.2
  have h3 := zrng x
  have e : (x - 1).toInt = x.toInt - 1 := fb_subI (y := 1) (by rw [show (1 : Int32).toInt = 1 from rfl]; omega) (by rw [show (1 : Int32).toInt = 1 from rfl]; omega)
  have h4 : x.toInt ≠ 0 := fun q => h0 (Int32.toInt_inj.mp (by rw [q]; rfl))
  exact ⟨by rw [e]; omega, by rw [e]; omega⟩
theorem zk_go {M M' : zSg} (h : zk M M') (t its n : Int32) (ht : vp_in t 16) (hn : its = 2 ∨ its = 3 ∨ its = 4 ∨ its = 5 → vp_in n 6) (h5 : its = 5 → ¬ M' 102 (ix n) = 0) : zk M (mD_go M' t its n) := by
  unfold mD_go
  have h1 : zk M (zup M' 42 (ix t) (M' 42 (ix t) + 1)) := zk_up h (f := 42) (by rfl) (zr_any _)
  dsimp only
  have h6 : (zup M' 42 (ix t) (M' 42 (ix t) + 1)) 102 (ix n) = M' 102 (ix n) := rfl
  rw [← h6] at h5
  generalize zup M' 42 (ix t) (M' 42 (ix t) + 1) = M1 at h1 h5
  by_cases c1 : its = 1
  · rw [if_pos c1]
    exact zk_up (zk_up (zk_leave h1 t) (f := 41) (by rfl) zst_3) (f := 48) (by rfl) (zr_any _)
  · rw [if_neg c1]
    by_cases c2 : its = 2
    · rw [if_pos c2]
      exact zk_up h1 (f := 101) (by rfl) (zr_in (a := -1) (b := 15) ht (by decide) (by decide))
    · rw [if_neg c2]
      by_cases c3 : its = 3
      · rw [if_pos c3]
        split
        · exact zk_free h1 n
        · exact h1
      · rw [if_neg c3]
        by_cases c4 : its = 4
        · rw [if_pos c4]
          exact zk_signal h1 n
        · rw [if_neg c4]
          by_cases c5 : its = 5
          · rw [if_pos c5]
            exact zk_up h1 (f := 102) (by rfl) (zdec (h1.1 102 (ix n)) (h5 c5))
          · rw [if_neg c5]
            exact zk_ready (zk_leave h1 t) t
theorem zk_aw {M M' : zSg} (h : zk M M') (t its n : Int32) (ht : vp_in t 16) (hn : its = 2 ∨ its = 3 ∨ its = 4 ∨ its = 5 → vp_in n 6) : zk M (mD_aw M' t its n) := by
  unfold mD_aw
  by_cases c : its = 5
  · rw [if_pos c]
    split
    · exact zk_stay h t 5 n zst_5 (zr_in (a := 0) (b := 5) (hn (Or.inr (Or.inr (Or.inr c)))) (by decide) (by decide))
    · rename_i h9
      exact zk_go h t its n ht hn (fun _ => h9)
  · rw [if_neg c]
    exact zk_go h t its n ht hn (fun h9 => absurd h9 c)
theorem zk_doStep {M M' : zSg} (h : zk M M') (t its n : Int32) (ht : vp_in t 16) (hn : its = 2 ∨ its = 3 ∨ its = 4 ∨ its = 5 → vp_in n 6) : zk M (mF_doStep M' t its n) := by
  unfold mF_doStep
  by_cases c : its = 2
  · rw [if_pos c]
    split
    · exact zk_aw h t its n ht hn
    · split
      · exact zk_aw h t its n ht hn
      · exact zk_stay h t 4 n zst_4 (zr_in (a := 0) (b := 5) (hn (Or.inl c)) (by decide) (by decide))
  · rw [if_neg c]
    exact zk_aw h t its n ht hn
theorem zk_goOn {M : zSg} {t p : Int32} (ht : vp_in t 16) {b : Bool} {M2 : zSg} : ∀ (f : Nat) (M' : zSg), zk M M' → mF_goOn f M' t p = some (b, M2) → zk M M2
  | 0, M', _, h => by cases h
  | f + 1, M', hM, h => by
    rw [mF_goOn] at h
    by_cases c1 : M' 41 (ix t) = 2
    · rw [if_pos c1] at h
      by_cases c2 : 0 ≤ (M' 42 (ix t)).toInt ∧ (M' 42 (ix t)).toInt < 16
      · rw [if_pos c2] at h
        by_cases c3 : M' (8 + ix t) (ix (M' 42 (ix t))) = 0
        · rw [if_pos c3] at h
          cases h
          exact zk_runOne hM ht _ _
        · rw [if_neg c3] at h
          by_cases c4 : zok6 (M' (8 + ix t) (ix (M' 42 (ix t)))) (M' (25 + ix t) (ix (M' 42 (ix t)))) = true
          · rw [if_pos c4] at h
            exact zk_goOn ht f _ (zk_doStep hM _ _ _ ht (zok6_of c4)) h
          · rw [if_neg c4] at h
            cases h
      · rw [if_neg c2] at h
        cases h
    · rw [if_neg c1] at h
      cases h
      exact hM
def mF_any (r : Nat → Int32) (m : Nat) (t : Int32) : Bool := (List.range m).any (fun k => decide (r k = t))
theorem mF_any_t {r : Nat → Int32} {m k : Nat} {t : Int32} (hk : k < m) (h : r k = t) : mF_any r m t = true := by
  unfold mF_any
  rw [List.any_eq_true]
  exact ⟨k, List.mem_range.mpr hk, by simpa using h⟩
theorem mF_any_f {r : Nat → Int32} {m : Nat} {t : Int32} (h : ∀ k, k < m → ¬ r k = t) : mF_any r m t = false := by
  unfold mF_any
  rw [List.any_eq_false]
  intro k hk
  simpa using h k (List.mem_range.mp hk)
