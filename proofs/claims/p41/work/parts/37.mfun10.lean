/-! The reference: what would be, load, digest -/
def mF_blk (M : zSg) : Bool := (List.range 16).all fun t => !(M 41 t == 4) || !(M 101 (ix (M 49 t)) == -1)
theorem mF_blk_of {M : zSg} (h : mF_blk M = true) : zBl M := by
  intro t ht h4 hm
  unfold mF_blk at h
  rw [List.all_eq_true] at h
  have := h t (List.mem_range.mpr ht)
  rw [h4, hm] at this
  exact absurd this (by decide)
/-- stuck in how many ticks -/
def mF_stk (f : Nat) : Nat → Nat → zSg → Option Int32
  | 0, k, M => if mF_blk M = true then some (if mF_stuck M = 0 then -1 else nI k) else none
  | j + 1, k, M => if mF_blk M = true then (if mF_stuck M = 0 then (mF_tick f M).bind (mF_stk f j (k + 1)) else some (nI k)) else none
theorem zmW_rc {M s : zSg} (hM : zmW M) (hs : zmW s) (f n : Nat) : zmW (mF_rc M f n s) := by
  intro f' j
  unfold mF_rc zrow
  split
  · rename_i e
    subst e
    dsimp only
    split
    · exact hM _ _
    · exact hs _ _
  · exact hs _ _
theorem zmW_new : zmW mF_new := by
  have key : ∀ f, f < 103 → ∀ j, j < 16 → (zlo f j ≤ (mF_new f j).toInt ∧ (mF_new f j).toInt ≤ zhi f j) := by decide +kernel
  intro f j
  by_cases hf : f < 103
  · by_cases hj : j < 16
    · exact key f hf j hj
    · have h1 : mF_new f j = 0 := by
        unfold mF_new
        split
        · split <;> first | omega | rfl
        · rw [if_neg (by omega)]
        · rw [if_neg (by omega)]
        · rfl
      rw [h1]
      have h2 : zlo f j ≤ 0 ∧ (0 : Int) ≤ zhi f j := by
        unfold zlo zhi
        constructor
        · split <;> first | decide | (split <;> first | omega | decide)
        · split <;> first | decide | (split <;> first | omega | decide)
      exact h2
  · have h1 : mF_new f j = 0 := by
      unfold mF_new
      split <;> first | omega | rfl
    rw [h1]
    unfold zlo zhi
    constructor
    · split <;> first | omega | decide
    · split <;> first | omega | decide
theorem zmW_cset {M : zSg} (hM : zmW M) : zmW (mF_cset M) :=
  zmW_up (zmW_up (zmW_up (zmW_up (zmW_up (zmW_up (zmW_up (zmW_up (zmW_up zmW_new (f := 0) (j := 1) (zr_any _)) (f := 0) (j := 2) (hM 0 2)) (f := 0) (j := 3) (hM 0 3)) (f := 0) (j := 4) (hM 0 4)) (f := 0) (j := 5) (hM 0 5)) (f := 0) (j := 6) (hM 0 6)) (f := 0) (j := 9) (zr_any _)) (f := 0) (j := 10) (zr_any _)) (f := 0) (j := 15) (hM 0 15)
theorem zmW_fold (body : Nat → zSg → zSg) (h : ∀ k s, zmW s → zmW (body k s)) (L : List Nat) : ∀ s, zmW s → zmW (L.foldl (fun s i => body i s) s) := by
  induction L with
  | nil => intro s hs; exact hs
  | cons a L ih => intro s hs; exact ih _ (h a s hs)
theorem zmW_copy {M : zSg} (hM : zmW M) : zmW (mF_copy M) :=
  zmW_fold (mB_ct M) (fun k s hs => zmW_rc hM (zmW_rc hM (zmW_rc hM hs _ _) _ _) _ _) _ _ (zmW_fold (fun i s => mF_rc M (mCP i) (mCN i) s) (fun k s hs => zmW_rc hM hs _ _) _ _ (zmW_cset hM))
theorem z_back {ly ly' : zLy} {τ τ' : zTu} {σ M2 : zSg} {n q : Nat} (hq : n ≤ q) (hz : ∀ a, n ≤ a → (ly a).1 = 0) (hlo : ∀ a, a < q → ly' a = ly a) (hτ : ∀ a, a < q → τ' a = τ a) : ∀ a, (ly a).1 = 0 ∨ (ly a = ly' a ∧ σ a = zwr σ q 103 M2 a ∧ τ a = τ' a) := by
  intro a
  by_cases h : n ≤ a
  · exact Or.inl (hz a h)
  · exact Or.inr ⟨(hlo a (by omega)).symm, (zwr_out σ M2 (by omega)).symm, (hτ a (by omega)).symm⟩
def mP_doneIn (f : Nat) (M : zSg) (t u : Int32) : Option (zSg × Int32) := if mF_isTask (zup M 0 0 0) t = true then (if mF_is u 1 60 = true then (mF_done f t (ix u) 0 (mF_copy (zup M 0 0 0))).map (fun v => (zup M 0 0 0, v)) else some (mF_ref (zup M 0 0 0) 2)) else some (mF_ref (zup M 0 0 0) 1)
def mP_doneWith (f : Nat) (M : zSg) (t r u : Int32) : Option (zSg × Int32) := if mF_isTask (zup M 0 0 0) t = true then (if mF_is r 0 7 = true then (if mF_is u 1 60 = true then (mF_done f t (ix u) 0 (zup (mF_copy (zup M 0 0 0)) 3 (ix t) r)).map (fun v => (zup M 0 0 0, v)) else some (mF_ref (zup M 0 0 0) 2)) else some (mF_ref (zup M 0 0 0) 2)) else some (mF_ref (zup M 0 0 0) 1)
def mP_idleIn (f : Nat) (M : zSg) (u : Int32) : Option (zSg × Int32) := if mF_is u 1 60 = true then (mF_ticks f (ix u) (mF_copy (zup M 0 0 0))).map (fun M2 => (zup M 0 0 0, M2 0 12)) else some (mF_ref (zup M 0 0 0) 1)
def mP_stuckIn (f : Nat) (M : zSg) (u : Int32) : Option (zSg × Int32) := if mF_is u 1 60 = true then (mF_stk f (ix u) 0 (mF_copy (zup M 0 0 0))).map (fun v => (zup M 0 0 0, v)) else some (mF_ref (zup M 0 0 0) 1)
def mF_load (M : zSg) : UInt64 := if M 0 14 = 0 then 0 else FP.ddiv (FP.i2d (M 0 13)) (FP.i2d (M 0 14))
theorem zn64 (x : Int32) {y : Int32} (h : ¬ y = 0) : vf_n64 (FP.ddiv (FP.i2d x) (FP.i2d y)) := Jvm.Free.Fl.ddiv_out (Jvm.Free.Fl.i2d_fin x).noNaN (Jvm.Free.Fl.i2d_fin y) (Jvm.Free.Fl.i2d_nz h)
def zdg (s : Int64) (v : Int32) : Int64 := s * 31 + v.toInt64
theorem zupL_zupL (τ : zTu) (a k : Nat) (x y : Int64) : zupL (zupL τ a k x) a k y = zupL τ a k y := by
  funext b j
  unfold zupL
  split
  · split <;> rfl
  · rfl
theorem zupL_at (τ : zTu) (a k : Nat) (x : Int64) : zupL τ a k x a k = x := by
  unfold zupL
  rw [if_pos rfl, if_pos rfl]
