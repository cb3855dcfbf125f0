/-! The reference as functions of its cells: M f j is place j of the cell f of the 103 -/
def mF_is (v lo hi : Int32) : Bool := if v < lo then false else if hi < v then false else true
def mF_isTask (M : zSg) (t : Int32) : Bool := mF_is t 0 (M 0 15 - 1)
def mF_isProc (M : zSg) (t : Int32) : Bool := mF_is t 0 (M 0 6 - 1)
def mF_key (M : zSg) (t : Int32) : Int32 := if M 0 2 = 0 then M 3 (ix t) else if M 0 2 = 1 then M 46 (ix t) else M 47 (ix t)
/-- a bit of a set -/
def zbit (s : Int32) (k : Int32) : Int32 := (s >>> (k &&& 31)) &&& 1
def mB_waiters (M : zSg) (k : Nat) (s : Int32) : Int32 := if M 41 k = 4 then (if M 101 (ix (M 49 k)) = -1 then s else if (s >>> (M 101 (ix (M 49 k)) &&& 31)) &&& 1 = 0 then s else s ||| ((1 : Int32) <<< (nI k &&& 31))) else s
def mF_wstep (M : zSg) (s : Int32) : Int32 := (List.range (ix (M 0 15))).foldl (fun s i => mB_waiters M i s) s
def mF_waiters (M : zSg) (t : Int32) : Int32 := zit (mF_wstep M) 4294967296 ((1 : Int32) <<< (t &&& 31))
theorem mF_wstep_or (M : zSg) (s : Int32) : s ||| mF_wstep M s = mF_wstep M s := by
  have hb : ∀ (k : Nat) (x : Int32), x ||| mB_waiters M k x = mB_waiters M k x := by
    intro k x
    unfold mB_waiters
    repeat' split
    · exact Int32.or_self
    · exact Int32.or_self
    · rw [← Int32.or_assoc, Int32.or_self]
    · exact Int32.or_self
  have key : ∀ (L : List Nat) (x : Int32), s ||| x = x → s ||| L.foldl (fun s i => mB_waiters M i s) x = L.foldl (fun s i => mB_waiters M i s) x := by
    intro L
    induction L with
    | nil => intro x h; exact h
    | cons a L ih =>
      intro x h
      refine ih _ ?_
      show s ||| mB_waiters M a x = mB_waiters M a x
      rw [← hb a x, ← Int32.or_assoc, h]
  exact key _ s Int32.or_self
def mB_lent (M : zSg) (w : Int32) (k : Nat) (s : Int32) : Int32 := if (w >>> (nI k &&& 31)) &&& 1 = 0 then s else (if mF_key M (nI k) < s then mF_key M (nI k) else s)
def mF_lent (M : zSg) (t : Int32) : Int32 := (List.range (ix (M 0 15))).foldl (fun s i => mB_lent M (mF_waiters M t) i s) (mF_key M t)
def mB_least (M : zSg) (b : Int32) (k : Nat) (s : Int32) : Int32 := if nI k = b then s else if M 41 k = 1 then (if s = -1 then M 47 k else if M 47 k < s then M 47 k else s) else if M 41 k = 2 then (if s = -1 then M 47 k else if M 47 k < s then M 47 k else s) else s
def mF_least (M : zSg) (b : Int32) : Int32 := (List.range (ix (M 0 15))).foldl (fun s i => mB_least M b i s) (-1)
def mF_ready (M : zSg) (t : Int32) : zSg := zup (zup (zup M 41 (ix t) 1) 45 (ix t) (M 0 9)) 0 9 (M 0 9 + 1)
def mF_wake (M : zSg) (t : Int32) : zSg :=
  let M1 := if M 0 2 = 1 then zup M 46 (ix t) (if 0 < M 46 (ix t) - 1 then M 46 (ix t) - 1 else 0) else M
  let M2 := if M1 0 2 = 2 then zup M1 47 (ix t) (if M1 47 (ix t) < mF_least M1 t then mF_least M1 t else M1 47 (ix t)) else M1
  mF_ready M2 t
def mB_leave (t : Int32) (p : Nat) (M : zSg) : zSg := if M 68 p = t then zup M 68 p (-1) else M
def mF_leave (M : zSg) (t : Int32) : zSg := (List.range (ix (M 0 6))).foldl (fun s i => mB_leave t i s) M
/-- ranges -/
def zr1 (x : Int32) (a b : Int) : Prop := a ≤ x.toInt ∧ x.toInt ≤ b
/-- what each place may hold -/
def zlo (f j : Nat) : Int := match f with
  | 0 => (match j with | 2 => 0 | 3 => 1 | 4 => 0 | 5 => 1 | 6 => 1 | 15 => 0 | _ => -2147483648)
  | 1 => 0 | 3 => 0 | 4 => 0 | 6 => 0 | 41 => 0 | 46 => 0 | 49 => 0 | 68 => -1 | 101 => -1 | 102 => 0
  | _ => -2147483648
def zhi (f j : Nat) : Int := match f with
  | 0 => (match j with | 2 => 2 | 3 => 10 | 4 => 50 | 5 => 50 | 6 => 3 | 15 => 16 | _ => 2147483647)
  | 1 => 50 | 3 => 7 | 4 => 3 | 6 => 16 | 41 => 6 | 46 => 3 | 49 => 5 | 68 => 15 | 101 => 15 | 102 => 99
  | _ => 2147483647
def zmW (M : zSg) : Prop := ∀ f j, zr1 (M f j) (zlo f j) (zhi f j)
theorem zmW_up {M : zSg} (h : zmW M) {f j : Nat} {v : Int32} (hv : zr1 v (zlo f j) (zhi f j)) : zmW (zup M f j v) := by
  intro f' j'
  unfold zup
  by_cases h1 : f' = f
  · by_cases h2 : j' = j
    · subst h1; subst h2
      rw [if_pos rfl, if_pos rfl]
      exact hv
    · rw [if_pos h1, if_neg h2]
      exact h f' j'
  · rw [if_neg h1]
    exact h f' j'
theorem zr_any (x : Int32) : zr1 x (-2147483648) 2147483647 := by
  have := zrng x
  exact ⟨by omega, by omega⟩
theorem zmW_n {M : zSg} (h : zmW M) : 0 ≤ (M 0 15).toInt := (h 0 15).1
theorem zmW_n16 {M : zSg} (h : zmW M) : ix (M 0 15) ≤ 16 := by
  have h2 := ztoInt (zmW_n h)
  have h3 : (M 0 15).toInt ≤ 16 := (h 0 15).2
  omega
theorem zmW_p {M : zSg} (h : zmW M) : 0 ≤ (M 0 6).toInt := by
  have h1 : 1 ≤ (M 0 6).toInt := (h 0 6).1
  omega
theorem zmW_p3 {M : zSg} (h : zmW M) : ix (M 0 6) ≤ 3 := by
  have h2 := ztoInt (zmW_p h)
  have h3 : (M 0 6).toInt ≤ 3 := (h 0 6).2
  omega
theorem zin_r {x : Int32} {a b : Int} {n : Nat} (h : zr1 x a b) (ha : 0 ≤ a) (hb : b < n) : vp_in x n := zin_i ⟨by have := h.1; omega, by have := h.2; omega⟩
theorem zin_m1 {x : Int32} {b : Int} {n : Nat} (h : zr1 x (-1) b) (hb : b < n) (hn : ¬ x = -1) : vp_in x n := by
  have h1 := h.1
  have h2 := h.2
  have h3 : x.toInt ≠ -1 := fun e => hn (Int32.toInt_inj.mp (by rw [e]; decide))
  exact zin_i ⟨by omega, by omega⟩
theorem zr_in {x : Int32} {n : Nat} {a b : Int} (h : vp_in x n) (ha : a ≤ 0) (hb : (n : Int) ≤ b + 1) : zr1 x a b := by
  have := vp_in_iff.mp h
  exact ⟨by omega, by omega⟩
theorem zmW_at {M : zSg} (h : zmW M) (t : Nat) : vp_in (M 49 t) 6 := zin_r (a := 0) (b := 5) (h 49 t) (by decide) (by decide)
theorem zlv {M : zSg} (h : zmW M) (t : Nat) : zr1 (if 0 < M 46 t - 1 then M 46 t - 1 else 0) 0 3 := by
  have h1 : 0 ≤ (M 46 t).toInt := (h 46 t).1
  have h2 : (M 46 t).toInt ≤ 3 := (h 46 t).2
  have h3 : (M 46 t - 1).toInt = (M 46 t).toInt - 1 := fb_subI (y := 1) (by rw [show (1 : Int32).toInt = 1 from rfl]; omega) (by rw [show (1 : Int32).toInt = 1 from rfl]; omega)
  split
  · rename_i h4
    rw [Int32.lt_iff_toInt_lt, h3] at h4
    rw [show (0 : Int32).toInt = 0 from rfl] at h4
    exact ⟨by rw [h3]; omega, by rw [h3]; omega⟩
  · exact ⟨by decide, by decide⟩

