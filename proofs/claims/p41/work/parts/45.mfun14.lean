/-! The class, its machine: who may be nobody -/
def zoI (s : Option Nat) : Prop := ∀ i, s = some i → i < 16
theorem zoI_n : zoI none := fun i h => by cases h
theorem zoI_s {k : Nat} (h : k < 16) : zoI (some k) := fun i e => by cases e; exact h
def cF_begin (M : zSg) : zSg :=
  let M1 := if cF_begins (M 0 9) (M 1 4) = true then (List.range 4).foldl (fun s k => zup s 9 k 0) M else M
  if M1 1 1 = 1 then (if cF_begins (M1 0 9) (M1 1 3) = true then (List.range 16).foldl (fun s k => zup s (ztk k) 10 0) M1 else M1) else M1
def cB_turn (k : Nat) (M : zSg) : zSg := match cF_at (M 12 k) with
  | none => M
  | some i => if cF_endsTurn M (M (ztk i) 10) (M (ztk i) 12) = true then
      (let M1 := cF_ready (zup M 12 k (-1)) i
      if M1 1 1 = 1 then (if M1 (ztk i) 10 < 3 then zup M1 (ztk i) 10 (M1 (ztk i) 10 + 1) else M1) else M1) else M
def cF_turns (M : zSg) : zSg := (List.range 3).foldl (fun s k => cB_turn k s) M
def cB_sig (M : zSg) (q : Int32) (k : Nat) (s : Option Nat) : Option Nat := if cF_waitsAt M k 5 q = true then (match s with | none => some k | some j => if M (ztk k) 14 < M (ztk j) 14 then some k else some j) else s
def cF_sig (M : zSg) (q : Int32) : Option Nat := (List.range 16).foldl (fun s k => cB_sig M q k s) none
def cF_signal (M : zSg) (q : Int32) : zSg := if q < 0 then M else if q < 6 then (match cF_sig M q with
  | some i => cF_wake (zup M (ztk i) 6 (M (ztk i) 6 + 1)) i
  | none => if M 11 (ix q) < 99 then zup M 11 (ix q) (M 11 (ix q) + 1) else M) else M
def cB_first (M : zSg) (w : Int32) (k : Nat) (s : Option Nat) : Option Nat := if w &&& ((1 : Int32) <<< (M (ztk k) 0 &&& 31)) = 0 then s else (match s with | none => some k | some j => if cF_comesAhead M k j = true then some k else some j)
def cF_first (M : zSg) (w : Int32) : Option Nat := (List.range 16).foldl (fun s k => cB_first M w k s) none
def cB_len (k : Nat) (M : zSg) : zSg := zup M (ztk k) 15 (cF_key M k (M 1 1))
def cB_rel (k : Nat) (s : zSg × Int32) : zSg × Int32 := if s.1 (ztk k) 5 = 4 then (match cF_at (cF_holder s.1 (s.1 (ztk k) 13)) with
  | none => s
  | some j => if s.1 (ztk k) 15 < s.1 (ztk j) 15 then (zup s.1 (ztk j) 15 (s.1 (ztk k) 15), 1) else s) else s
def cF_pass (M : zSg) : zSg × Int32 := (List.range 16).foldl (fun s k => cB_rel k s) (M, 0)
def cF_passes : Nat → zSg × Int32 → zSg
  | 0, s => s.1
  | j + 1, s => if s.2 = 0 then s.1 else cF_passes j (cF_pass s.1)
def cF_lent (M : zSg) : zSg := cF_passes 16 ((List.range 16).foldl (fun s k => cB_len k s) M, 1)
def cB_heir (M : zSg) (q : Int32) (k : Nat) (s : Option Nat) : Option Nat := if cF_waitsAt M k 4 q = true then (match s with | none => some k | some j => if cF_inheritsAhead M k j = true then some k else some j) else s
def cF_heir (M : zSg) (q : Int32) : Option Nat := (List.range 16).foldl (fun s k => cB_heir M q k s) none
def cF_unlock (M : zSg) (i : Nat) (q : Int32) : zSg := if q < 0 then M else if q < 6 then (if M 10 (ix q) = M (ztk i) 0 then (match cF_heir (cF_lent M) q with
  | none => zup (cF_lent M) 10 (ix q) (-1)
  | some j => (let M1 := zup (cF_lent M) 10 (ix q) ((cF_lent M) (ztk j) 0)
    cF_wake (zup M1 (ztk j) 6 (M1 (ztk j) 6 + 1)) j)) else M) else M
theorem zoI_fold (body : Nat → Option Nat → Option Nat) (n : Nat) (hn : n ≤ 16) (h : ∀ k s, k < n → zoI s → zoI (body k s)) {s : Option Nat} (hs : zoI s) : zoI ((List.range n).foldl (fun s i => body i s) s) := by
  induction n with
  | zero => exact hs
  | succ n ih =>
    rw [List.range_succ, List.foldl_append]
    exact h n _ (by omega) (ih (by omega) (fun k s hk => h k s (by omega)))
theorem zoI_sig1 (M : zSg) (q : Int32) {k : Nat} {s : Option Nat} (hk : k < 16) (hs : zoI s) : zoI (cB_sig M q k s) := by
  unfold cB_sig
  repeat' split
  all_goals first | exact hs | exact zoI_s hk
theorem zoI_first1 (M : zSg) (q : Int32) {k : Nat} {s : Option Nat} (hk : k < 16) (hs : zoI s) : zoI (cB_first M q k s) := by
  unfold cB_first
  repeat' split
  all_goals first | exact hs | exact zoI_s hk
theorem zoI_heir1 (M : zSg) (q : Int32) {k : Nat} {s : Option Nat} (hk : k < 16) (hs : zoI s) : zoI (cB_heir M q k s) := by
  unfold cB_heir
  repeat' split
  all_goals first | exact hs | exact zoI_s hk
theorem cF_first_lt {M : zSg} {w : Int32} {i : Nat} (h : cF_first M w = some i) : i < 16 := zoI_fold (cB_first M w) 16 (Nat.le_refl _) (fun k s hk hs => zoI_first1 M w hk hs) zoI_n i h
theorem cF_sig_lt {M : zSg} {w : Int32} {i : Nat} (h : cF_sig M w = some i) : i < 16 := zoI_fold (cB_sig M w) 16 (Nat.le_refl _) (fun k s hk hs => zoI_sig1 M w hk hs) zoI_n i h
theorem cF_heir_lt {M : zSg} {w : Int32} {i : Nat} (h : cF_heir M w = some i) : i < 16 := zoI_fold (cB_heir M w) 16 (Nat.le_refl _) (fun k s hk hs => zoI_heir1 M w hk hs) zoI_n i h
