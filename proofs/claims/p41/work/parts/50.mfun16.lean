/-! The class: sharing processors, steps -/
def cF_tkn (M : zSg) (i : Nat) (c : Int32) : Nat → Nat → Bool
  | 0, _ => false
  | j + 1, p => if nI p < c then (if M 13 p = M (ztk i) 0 then true else cF_tkn M i c j (p + 1)) else false
def cF_isTaken (M : zSg) (i : Nat) (c : Int32) : Bool := cF_tkn M i c 3 0
def cF_on1 (M : zSg) (i p : Nat) : zSg :=
  let M1 := zup M 12 p (M (ztk i) 0)
  let M2 := zup M1 (ztk i) 5 2
  let M3 := zup M2 (ztk i) 12 0
  zup M3 3 0 (M3 3 0 + 1)
def cF_sw (M : zSg) (i : Nat) : Nat → Nat → zSg
  | 0, _ => M
  | j + 1, p => if nI p < M 1 0 then (if M 12 p = -1 then cF_on1 M i p else cF_sw M i j (p + 1)) else M
def cF_switch (M : zSg) (i : Nat) : zSg := cF_sw M i 3 0
def cF_tio : Nat → zSg → Int32 → Nat → zSg × Nat
  | 0, M, _, c => (M, c)
  | j + 1, M, w, c => if nI c < M 1 0 then (match cF_first M w with
    | none => (M, c)
    | some t => if nI c < 3 then (if (cF_ofGroup M (M (ztk t) 4)).2 = true then cF_tio j (zup (cF_ofGroup M (M (ztk t) 4)).1 13 c ((cF_ofGroup M (M (ztk t) 4)).1 (ztk t) 0)) (w &&& (((1 : Int32) <<< (M (ztk t) 0 &&& 31)) ^^^ (-1))) (c + 1)
        else cF_tio j (cF_ofGroup M (M (ztk t) 4)).1 (w &&& (((1 : Int32) <<< (M (ztk t) 0 &&& 31)) ^^^ (-1))) c)
      else cF_tio j M (w &&& (((1 : Int32) <<< (M (ztk t) 0 &&& 31)) ^^^ (-1))) c) else (M, c)
def cF_tog0 (M : zSg) : zSg := (List.range 4).foldl (fun s k => zup s 14 k 0) M
def cF_takes (M : zSg) : zSg × Nat := cF_tio 16 (cF_tog0 M) (cF_in M 1 ||| cF_in M 2) 0
theorem nI_lt3 {c : Nat} (h : c ≤ 3) (h2 : nI c < 3) : c < 3 := by
  rw [Int32.lt_iff_toInt_lt, nI_toInt (by omega), show (3 : Int32).toInt = 3 from rfl] at h2
  omega
theorem cF_tio_le : ∀ (j : Nat) (M : zSg) (w : Int32) (c : Nat), c ≤ 3 → (cF_tio j M w c).2 ≤ 3 := by
  intro j
  induction j with
  | zero => intro M w c h; exact h
  | succ j ih =>
    intro M w c h
    rw [cF_tio]
    split
    · split
      · exact h
      · split
        · rename_i h3
          have := nI_lt3 h h3
          split
          · exact ih _ _ _ (by omega)
          · exact ih _ _ _ h
        · exact ih _ _ _ h
    · exact h
theorem cF_takes_le (M : zSg) : (cF_takes M).2 ≤ 3 := cF_tio_le 16 _ _ 0 (by decide)
def cB_drop (c : Int32) (k : Nat) (M : zSg) : zSg := match cF_at (M 12 k) with
  | none => M
  | some i => if cF_isTaken M i c = true then M else zup (zup M 12 k (-1)) (ztk i) 5 1
def cB_put (k : Nat) (M : zSg) : zSg := match cF_at (M 13 k) with
  | none => M
  | some i => if M (ztk i) 5 = 1 then cF_switch M i else M
def cF_share (M : zSg) : zSg := (List.range (cF_takes (cF_lent M)).2).foldl (fun s k => cB_put k s) ((List.range 3).foldl (fun s k => cB_drop (nI (cF_takes (cF_lent M)).2) k s) (cF_takes (cF_lent M)).1)
def cF_do (M : zSg) (i : Nat) (code n : Int32) : zSg :=
  if code = 1 then cF_waitFor M i 3 (M 0 9 + n) else if code = 2 then cF_lockBy M i n else if code = 3 then cF_unlock M i n else if code = 4 then cF_signal M n else if code = 5 then cF_awaitBy M i n else cF_ready (cF_leave M i) i
def cF_ps (i : Nat) : Nat → zSg → zSg
  | 0, M => M
  | j + 1, M => if M (ztk i) 5 = 2 then (if cF_codeAt M i (M (ztk i) 6) = 0 then M else
      (let M2 := cF_do (zup M (ztk i) 6 (M (ztk i) 6 + 1)) i (cF_codeAt M i (M (ztk i) 6)) (cF_numAt M i (M (ztk i) 6))
      cF_ps i j (if M2 (ztk i) 5 = 4 then zup M2 (ztk i) 6 (M (ztk i) 6) else if M2 (ztk i) 5 = 5 then zup M2 (ztk i) 6 (M (ztk i) 6) else M2))) else M
def cF_steps (M : zSg) (i : Nat) : zSg := cF_ps i 16 M
def cB_run (k : Nat) (M : zSg) : zSg := match cF_at (M 12 k) with
  | none => (let M1 := cF_note M (nI k) (M 0 9) (-1)
    if nI k < M1 1 0 then cF_offer M1 false else M1)
  | some i => (let M1 := cF_steps M i
    if M1 (ztk i) 5 = 2 then
      (let M2 := cF_note M1 (nI k) (M1 0 9) (M1 (ztk i) 0)
      let M3 := if nI k < M2 1 0 then cF_offer M2 true else M2
      let M4 := cF_runTick M3 i
      if cF_isThrough M4 i = true then cF_finish M4 i else M4)
    else (let M2 := cF_note M1 (nI k) (M1 0 9) (-1)
      if nI k < M2 1 0 then cF_offer M2 false else M2))
def cF_tick (M : zSg) : zSg :=
  let M1 := (List.range 3).foldl (fun s k => cB_run k s) (cF_share (cF_turns (cF_wakes (cF_begin M))))
  let M2 := cF_cw M1
  zup M2 0 9 (M2 0 9 + 1)
