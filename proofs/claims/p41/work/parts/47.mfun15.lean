/-! The class: ends, stuck -/
def cF_finish (M : zSg) (i : Nat) : zSg :=
  let M1 := zup (cF_leave M i) (ztk i) 5 6
  let M2 := zup M1 (ztk i + 4) 4 (M1 0 9)
  (List.range 6).foldl (fun s q => cF_unlock s i (nI q)) M2
def cF_nb (M : zSg) (r : Option Nat) : Bool := match r with | none => false | some i => if M (ztk i) 5 = 4 then true else false
def cF_nx (M : zSg) (r : Option Nat) : Option Nat := match r with | none => none | some i => cF_at (cF_holder M (M (ztk i) 13))
def cF_chase (M : zSg) : Nat → Option Nat → Bool
  | 0, r => cF_nb M r
  | j + 1, r => if cF_nb M r = true then cF_chase M j (cF_nx M r) else false
def cF_isStuck (M : zSg) (i : Nat) : Bool := cF_chase M 16 (some i)
def cB_stuck (M : zSg) (k : Nat) (s : Int32) : Int32 := if cF_isStuck M k = true then s ||| ((1 : Int32) <<< (M (ztk k) 0 &&& 31)) else s
def cF_stuck (M : zSg) : Int32 := (List.range 16).foldl (fun s k => cB_stuck M k s) 0
