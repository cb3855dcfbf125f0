/-! The class, its machine -/
/-- a task, or none -/
def zov (o : Nat) (r : Option Nat) : Value := match r with
  | some i => .ref (o + ztk i)
  | none => .null
def cF_at (x : Int32) : Option Nat := if x < 0 then none else if x < 16 then some (ix x) else none
theorem cF_at_lt {x : Int32} {i : Nat} (h : cF_at x = some i) : i < 16 := by
  unfold cF_at at h
  split at h
  · cases h
  · split at h
    · rename_i h0 h1
      cases h
      exact zin_lt (zin_c h0 h1 rfl)
    · cases h
def cF_on (M : zSg) (x : Int32) : Int32 := if x < 0 then -1 else if x < 3 then M 12 (ix x) else -1
def cF_holder (M : zSg) (x : Int32) : Int32 := if x < 0 then -1 else if x < 6 then M 10 (ix x) else -1
def cF_number (M : zSg) (x : Int32) : Int32 := if x < 0 then 0 else if x < 6 then M 11 (ix x) else 0
def cB_in (M : zSg) (st : Int32) (k : Nat) (s : Int32) : Int32 := if M (ztk k) 5 = st then s ||| ((1 : Int32) <<< (M (ztk k) 0 &&& 31)) else s
def cF_in (M : zSg) (st : Int32) : Int32 := (List.range 16).foldl (fun s i => cB_in M st i s) 0
def cB_wt (M : zSg) (st q : Int32) (k : Nat) (s : Int32) : Int32 := if cF_waitsAt M k st q = true then s ||| ((1 : Int32) <<< (M (ztk k) 0 &&& 31)) else s
def cF_wt (M : zSg) (st q : Int32) : Int32 := (List.range 16).foldl (fun s i => cB_wt M st q i s) 0
def cF_ready (M : zSg) (i : Nat) : zSg :=
  let M1 := zup M (ztk i) 5 1
  let M2 := zup M1 (ztk i) 9 (M1 0 11)
  zup M2 0 11 (M2 0 11 + 1)
def cB_least (M : zSg) (i k : Nat) (s : Int32) : Int32 := if k = i then s else if M (ztk k) 5 = 1 then (if s = -1 then M (ztk k) 11 else if M (ztk k) 11 < s then M (ztk k) 11 else s) else if M (ztk k) 5 = 2 then (if s = -1 then M (ztk k) 11 else if M (ztk k) 11 < s then M (ztk k) 11 else s) else s
def cF_least (M : zSg) (i : Nat) : Int32 := (List.range 16).foldl (fun s k => cB_least M i k s) (-1)
def cF_start (M : zSg) (i : Nat) : zSg := cF_ready (zup M (ztk i) 11 (if cF_least M i = -1 then 0 else cF_least M i)) i
def cF_wake (M : zSg) (i : Nat) : zSg :=
  let M1 := if M 1 1 = 1 then (if 0 < M (ztk i) 10 then zup M (ztk i) 10 (M (ztk i) 10 - 1) else M) else M
  let M2 := if M1 1 1 = 2 then (if M1 (ztk i) 11 < cF_least M1 i then zup M1 (ztk i) 11 (cF_least M1 i) else M1) else M1
  cF_ready M2 i
def cB_leave (i : Nat) (k : Nat) (M : zSg) : zSg := if M 12 k = M (ztk i) 0 then zup M 12 k (-1) else M
def cF_leave (M : zSg) (i : Nat) : zSg := (List.range 3).foldl (fun s k => cB_leave i k s) M
def cB_clr (k : Nat) (M : zSg) : zSg := if M (ztk k) 5 = 2 then zup M (ztk k) 5 1 else M
def cF_clear (M : zSg) : zSg := (List.range 16).foldl (fun s k => cB_clr k s) ((List.range 3).foldl (fun s k => zup s 12 k (-1)) M)
def cF_waitFor (M : zSg) (i : Nat) (st w : Int32) : zSg :=
  let M1 := zup (cF_leave M i) (ztk i) 5 st
  let M2 := zup M1 (ztk i) 13 w
  let M3 := zup M2 (ztk i) 14 (M2 0 12)
  zup M3 0 12 (M3 0 12 + 1)
def cF_lockBy (M : zSg) (i : Nat) (q : Int32) : zSg := if q < 0 then M else if q < 6 then (if M 10 (ix q) = M (ztk i) 0 then M else if M 10 (ix q) = -1 then zup M 10 (ix q) (M (ztk i) 0) else cF_waitFor M i 4 q) else M
def cF_awaitBy (M : zSg) (i : Nat) (q : Int32) : zSg := if q < 0 then M else if q < 6 then (if 0 < M 11 (ix q) then zup M 11 (ix q) (M 11 (ix q) - 1) else cF_waitFor M i 5 q) else M
def cF_ofGroup (M : zSg) (g : Int32) : zSg × Bool := if g < 0 then (M, false) else if g < 4 then (if M 2 (ix g) = 0 then (zup M 14 (ix g) (M 14 (ix g) + 1), true) else if M 9 (ix g) + M 14 (ix g) < M 2 (ix g) then (zup M 14 (ix g) (M 14 (ix g) + 1), true) else (M, false)) else (M, false)
def cF_runTick (M : zSg) (i : Nat) : zSg :=
  let M1 := if M (ztk i) 4 < 0 then M else if M (ztk i) 4 < 4 then zup M 9 (ix (M (ztk i) 4)) (M 9 (ix (M (ztk i) 4)) + 1) else M
  let M2 := cF_countRun M1 i (M1 0 9)
  let M3 := zup M2 (ztk i) 12 (M2 (ztk i) 12 + 1)
  let M4 := if M3 1 1 = 2 then cF_addTime M3 i else M3
  cF_countStep M4 i
def cB_cw (k : Nat) (M : zSg) : zSg :=
  let M1 := if M (ztk k) 5 = 1 then zup M (ztk k + 4) 1 (M (ztk k + 4) 1 + 1) else M
  if M1 (ztk k) 5 = 4 then zup M1 (ztk k + 4) 2 (M1 (ztk k + 4) 2 + 1) else M1
def cF_cw (M : zSg) : zSg := (List.range 16).foldl (fun s k => cB_cw k s) M
def cB_wk (k : Nat) (M : zSg) : zSg := if M (ztk k) 5 = 3 then (if M 0 9 < M (ztk k) 13 then M else cF_wake M k) else M
def cF_wakes (M : zSg) : zSg := (List.range 16).foldl (fun s k => cB_wk k s) M
