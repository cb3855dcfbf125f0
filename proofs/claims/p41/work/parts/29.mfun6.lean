/-! The reference's answers -/
def mB_those (M : zSg) (its place : Int32) (k : Nat) (s : Int32) : Int32 := s ||| (if M 41 k = its then (if M 49 k = place then (1 : Int32) <<< (nI k &&& 31) else 0) else 0)
def mF_those (M : zSg) (its place : Int32) : Int32 := (List.range (ix (M 0 15))).foldl (fun s i => mB_those M its place i s) 0
def mF_chase (M : zSg) : Nat → Int32 → Int32
  | 0, t => t
  | j + 1, t => if M 41 (ix t) = 4 then mF_chase M j (M 101 (ix (M 49 (ix t)))) else t
def mB_stuck (M : zSg) (k : Nat) (s : Int32) : Int32 := s ||| (if M 41 (ix (mF_chase M (ix (M 0 15) + 1) (nI k))) = 4 then (1 : Int32) <<< (nI k &&& 31) else 0)
def mF_stuck (M : zSg) : Int32 := (List.range (ix (M 0 15))).foldl (fun s i => mB_stuck M i s) 0
/-- who is blocked is so at a held lock -/
def zBl (M : zSg) : Prop := ∀ t : Nat, t < 16 → M 41 t = 4 → ¬ M 101 (ix (M 49 t)) = -1
def mF_ran (M : zSg) (p b : Int32) : Int32 := if M 0 1 < b then -2 else M (71 + ix (b - 1)) (ix p)
def mF_isNum (its n : Int32) : Bool := if its = 6 then true else if mF_is n (if 1 < its then 0 else 1) (if its = 0 then 20 else if its = 1 then 40 else 5) = true then true else false
def mF_ref (M : zSg) (v : Int32) : zSg × Int32 := (zup M 0 0 v, 0)
def mB_sp (k : Nat) (s : zSg) : zSg := if s 68 k = -1 then s else zup (zup s 41 (ix (s 68 k)) 1) 68 k (-1)
def mP_setProcessors (M : zSg) (p : Int32) : zSg × Int32 := if mF_is p 1 3 = true then (zup ((List.range 3).foldl (fun s i => mB_sp i s) (zup M 0 0 0)) 0 6 p, (zup M 0 0 0) 0 6) else mF_ref (zup M 0 0 0) 1
def mP_setWay (M : zSg) (a b c : Int32) : zSg × Int32 := if mF_is a 0 2 = true then (if mF_is b 1 10 = true then (if mF_is c 0 50 = true then (zup (zup (zup (zup M 0 0 0) 0 2 a) 0 3 b) 0 4 c, (zup M 0 0 0) 0 2) else mF_ref (zup M 0 0 0) 1) else mF_ref (zup M 0 0 0) 1) else mF_ref (zup M 0 0 0) 1
def mP_setQuota (M : zSg) (a b : Int32) : zSg × Int32 := if mF_is a 0 3 = true then (if mF_is b 0 50 = true then (zup (zup M 0 0 0) 1 (ix a) b, (zup M 0 0 0) 1 (ix a)) else mF_ref (zup M 0 0 0) 2) else mF_ref (zup M 0 0 0) 1
def mP_setPeriod (M : zSg) (a : Int32) : zSg × Int32 := if mF_is a 1 50 = true then (zup (zup M 0 0 0) 0 5 a, (zup M 0 0 0) 0 5) else mF_ref (zup M 0 0 0) 1
def mP_added (M : zSg) (a b c : Int32) : zSg :=
  let M1 := zup M 3 (ix (M 0 15)) a
  let M2 := zup M1 4 (ix (M1 0 15)) b
  let M3 := zup M2 5 (ix (M2 0 15)) c
  let M4 := zup M3 45 (ix (M3 0 15)) (-1)
  let M5 := zup M4 (52 + ix (M4 0 15)) (ix 3) (-1)
  let M6 := zup M5 (52 + ix (M5 0 15)) (ix 4) (-1)
  zup M6 0 15 (M6 0 15 + 1)
def mP_addTask (M : zSg) (a b c : Int32) : zSg × Int32 := if mF_is a 0 7 = true then (if mF_is b 0 3 = true then (if mF_is c 1 5 = true then (if (zup M 0 0 0) 0 15 = 16 then mF_ref (zup M 0 0 0) 2 else (mP_added (zup M 0 0 0) a b c, (mP_added (zup M 0 0 0) a b c) 0 15 - 1)) else mF_ref (zup M 0 0 0) 1) else mF_ref (zup M 0 0 0) 1) else mF_ref (zup M 0 0 0) 1
def mP_stepped (M : zSg) (t a b : Int32) : zSg :=
  let M1 := zup M (8 + ix t) (ix (M 6 (ix t))) a
  let M2 := zup M1 (25 + ix t) (ix (M1 6 (ix t))) b
  zup M2 6 (ix t) (M2 6 (ix t) + 1)
def mP_addStep (M : zSg) (t a b : Int32) : zSg × Int32 := if mF_isTask (zup M 0 0 0) t = true then (if mF_is a 0 6 = true then (if mF_isNum a b = true then (if (zup M 0 0 0) 41 (ix t) = 0 then (if (zup M 0 0 0) 6 (ix t) = 16 then mF_ref (zup M 0 0 0) 3 else (mP_stepped (zup M 0 0 0) t a b, (mP_stepped (zup M 0 0 0) t a b) 6 (ix t))) else mF_ref (zup M 0 0 0) 3) else mF_ref (zup M 0 0 0) 2) else mF_ref (zup M 0 0 0) 2) else mF_ref (zup M 0 0 0) 1
def mP_started (M : zSg) (t : Int32) : zSg := mF_ready (zup M 47 (ix t) (if 0 < mF_least M t then mF_least M t else 0)) t
def mP_start (M : zSg) (t : Int32) : zSg × Int32 := if mF_isTask (zup M 0 0 0) t = true then (if (zup M 0 0 0) 41 (ix t) = 0 then (if (zup M 0 0 0) 6 (ix t) = 0 then mF_ref (zup M 0 0 0) 2 else if (zup M 0 0 0) (8 + ix t) (ix ((zup M 0 0 0) 6 (ix t) - 1)) = 0 then (mP_started (zup M 0 0 0) t, (mP_started (zup M 0 0 0) t) 45 (ix t)) else mF_ref (zup M 0 0 0) 2) else mF_ref (zup M 0 0 0) 2) else mF_ref (zup M 0 0 0) 1
def mP_setRank (M : zSg) (t r : Int32) : zSg × Int32 := if mF_isTask (zup M 0 0 0) t = true then (if mF_is r 0 7 = true then (zup (zup M 0 0 0) 3 (ix t) r, (zup M 0 0 0) 3 (ix t)) else mF_ref (zup M 0 0 0) 2) else mF_ref (zup M 0 0 0) 1
def mP_end (M : zSg) (t : Int32) : zSg × Int32 := if mF_isTask (zup M 0 0 0) t = true then (if (zup M 0 0 0) 41 (ix t) = 6 then mF_ref (zup M 0 0 0) 2 else (mF_finish (zup M 0 0 0) t, (zup M 0 0 0) 41 (ix t))) else mF_ref (zup M 0 0 0) 1
def mP_signal (M : zSg) (e : Int32) : zSg × Int32 := if mF_is e 0 5 = true then (mF_signal (zup M 0 0 0) e, (mF_signal (zup M 0 0 0) e) 102 (ix e)) else mF_ref (zup M 0 0 0) 1
def mP_get (M : zSg) (j : Nat) : zSg × Int32 := (zup M 0 0 0, (zup M 0 0 0) 0 j)
def mP_of (M : zSg) (f : Nat) (t : Int32) : zSg × Int32 := if mF_isTask (zup M 0 0 0) t = true then (zup M 0 0 0, (zup M 0 0 0) f (ix t)) else mF_ref (zup M 0 0 0) 1
def mP_keyOf (M : zSg) (t : Int32) : zSg × Int32 := if mF_isTask (zup M 0 0 0) t = true then (zup M 0 0 0, mF_key (zup M 0 0 0) t) else mF_ref (zup M 0 0 0) 1
def mP_lentKey (M : zSg) (t : Int32) : zSg × Int32 := if mF_isTask (zup M 0 0 0) t = true then (zup M 0 0 0, mF_lent (zup M 0 0 0) t) else mF_ref (zup M 0 0 0) 1
def mP_told (M : zSg) (t w : Int32) : zSg × Int32 := if mF_isTask (zup M 0 0 0) t = true then (if mF_is w 0 4 = true then (zup M 0 0 0, (zup M 0 0 0) (52 + ix t) (ix w)) else mF_ref (zup M 0 0 0) 2) else mF_ref (zup M 0 0 0) 1
def mP_on (M : zSg) (p : Int32) : zSg × Int32 := if mF_isProc (zup M 0 0 0) p = true then (zup M 0 0 0, (zup M 0 0 0) 68 (ix p)) else mF_ref (zup M 0 0 0) 1
def mP_ran (M : zSg) (p b : Int32) : zSg × Int32 := if mF_isProc (zup M 0 0 0) p = true then (if mF_is b 1 30 = true then (zup M 0 0 0, mF_ran (zup M 0 0 0) p b) else mF_ref (zup M 0 0 0) 2) else mF_ref (zup M 0 0 0) 1
def mP_used (M : zSg) (g : Int32) : zSg × Int32 := if mF_is g 0 3 = true then (zup M 0 0 0, (zup M 0 0 0) 2 (ix g)) else mF_ref (zup M 0 0 0) 1
def mP_holder (M : zSg) (q : Int32) : zSg × Int32 := if mF_is q 0 5 = true then (zup M 0 0 0, (zup M 0 0 0) 101 (ix q)) else mF_ref (zup M 0 0 0) 1
def mP_number (M : zSg) (q : Int32) : zSg × Int32 := if mF_is q 0 5 = true then (zup M 0 0 0, (zup M 0 0 0) 102 (ix q)) else mF_ref (zup M 0 0 0) 1
def mP_waits (M : zSg) (its q : Int32) : zSg × Int32 := if mF_is q 0 5 = true then (zup M 0 0 0, mF_those (zup M 0 0 0) its q) else mF_ref (zup M 0 0 0) 1
def mF_ticks (f : Nat) : Nat → zSg → Option zSg
  | 0, M => some M
  | j + 1, M => (mF_tick f M).bind (mF_ticks f j)
def mP_tick (f : Nat) (M : zSg) (t : Int32) : Option (zSg × Int32) := if mF_is t 1 40 = true then (mF_ticks f (ix t) (zup M 0 0 0)).map fun M2 => (M2, M2 0 1) else some (mF_ref (zup M 0 0 0) 1)
theorem zis_lo {v lo hi : Int32} (h : mF_is v lo hi = true) : ¬ v < lo := by
  unfold mF_is at h
  intro c
  rw [if_pos c] at h
  cases h
theorem zis_hi {v lo hi : Int32} (h : mF_is v lo hi = true) : ¬ hi < v := by
  unfold mF_is at h
  rw [if_neg (zis_lo (by unfold mF_is; exact h))] at h
  intro c
  rw [if_pos c] at h
  cases h
theorem zis_ge {v lo hi : Int32} (h : mF_is v lo hi = true) : lo.toInt ≤ v.toInt := by have := zis_lo h; rw [Int32.lt_iff_toInt_lt] at this; omega
theorem zis_le {v lo hi : Int32} (h : mF_is v lo hi = true) : v.toInt ≤ hi.toInt := by have := zis_hi h; rw [Int32.lt_iff_toInt_lt] at this; omega
theorem zin_is {v lo hi : Int32} {n : Nat} (h : mF_is v lo hi = true) (h0 : 0 ≤ lo.toInt) (h1 : hi.toInt < n) : vp_in v n := zin_i ⟨by have := zis_ge h; omega, by have := zis_le h; omega⟩
theorem zsub1 {x : Int32} (h : -2147483648 < x.toInt) : (x - 1).toInt = x.toInt - 1 := by
  have h2 := zrng x
  exact fb_subI (y := 1) (by rw [show (1 : Int32).toInt = 1 from rfl]; omega) (by rw [show (1 : Int32).toInt = 1 from rfl]; omega)
theorem zin_task {M : zSg} (hW : zmW M) {t : Int32} (h : mF_isTask M t = true) : vp_in t 16 := by
  have h1 := zis_ge h
  have h2 := zis_le h
  have h3 : 0 ≤ (M 0 15).toInt := (hW 0 15).1
  have h4 : (M 0 15).toInt ≤ 16 := (hW 0 15).2
  rw [zsub1 (by omega)] at h2
  rw [show (0 : Int32).toInt = 0 from rfl] at h1
  exact zin_i ⟨by omega, by show t.toInt < 16; omega⟩
theorem zin_proc {M : zSg} (hW : zmW M) {t : Int32} (h : mF_isProc M t = true) : vp_in t 3 := by
  have h1 := zis_ge h
  have h2 := zis_le h
  have h3 : 1 ≤ (M 0 6).toInt := (hW 0 6).1
  have h4 : (M 0 6).toInt ≤ 3 := (hW 0 6).2
  rw [zsub1 (by omega)] at h2
  rw [show (0 : Int32).toInt = 0 from rfl] at h1
  exact zin_i ⟨by omega, by show t.toInt < 3; omega⟩
theorem zin_back {b : Int32} (h : mF_is b 1 30 = true) : vp_in (b - 1) 30 := by
  have h1 : 1 ≤ b.toInt := zis_ge h
  have h2 : b.toInt ≤ 30 := zis_le h
  have h3 := zsub1 (x := b) (by omega)
  exact zin_i ⟨by omega, by show (b - 1).toInt < 30; omega⟩
theorem zin_ts {M : zSg} (hW : zmW M) (h : ¬ M 0 15 = 16) : vp_in (M 0 15) 16 := by
  have h3 : 0 ≤ (M 0 15).toInt := (hW 0 15).1
  have h4 : (M 0 15).toInt ≤ 16 := (hW 0 15).2
  refine zin_i ⟨h3, ?_⟩
  show (M 0 15).toInt < 16
  have : (M 0 15).toInt ≠ 16 := fun e => h (Int32.toInt_inj.mp e)
  omega
theorem zin_mn {M : zSg} (hW : zmW M) {t : Nat} (h : ¬ M 6 t = 16) : vp_in (M 6 t) 16 := by
  have h3 : 0 ≤ (M 6 t).toInt := (hW 6 t).1
  have h4 : (M 6 t).toInt ≤ 16 := (hW 6 t).2
  refine zin_i ⟨h3, ?_⟩
  show (M 6 t).toInt < 16
  have : (M 6 t).toInt ≠ 16 := fun e => h (Int32.toInt_inj.mp e)
  omega
theorem zin_ml {M : zSg} (hW : zmW M) {t : Nat} (h : ¬ M 6 t = 0) : vp_in (M 6 t - 1) 16 := by
  have h3 : 0 ≤ (M 6 t).toInt := (hW 6 t).1
  have h4 : (M 6 t).toInt ≤ 16 := (hW 6 t).2
  have h5 : (M 6 t).toInt ≠ 0 := fun e => h (Int32.toInt_inj.mp e)
  have h6 := zsub1 (x := M 6 t) (by omega)
  exact zin_i ⟨by omega, by show (M 6 t - 1).toInt < 16; omega⟩
theorem zin_bl {M : zSg} (hW : zmW M) (hB : zBl M) {t : Nat} (ht : t < 16) (h : M 41 t = 4) : vp_in (M 101 (ix (M 49 t))) 16 := zin_m1 (b := 15) (hW 101 _) (by decide) (hB t ht h)
theorem zmW_0 {M : zSg} (hW : zmW M) : zmW (zup M 0 0 0) := zmW_up hW (f := 0) (zr_any _)
theorem zk_sp1 {M M' : zSg} (h : zk M M') (k : Nat) : zk M (mB_sp k M') := by
  unfold mB_sp
  split
  · exact h
  · exact zk_up (zk_up h (f := 41) (by rfl) zst_1) (f := 68) (by rfl) zr_m1
theorem zup_nf (A : zSg) {f f' : Nat} (h : f' ≠ f) (j j' : Nat) (v : Int32) : zup A f j v f' j' = A f' j' := if_neg h
