/-! The reference, on: who is next, freeing, signals, ends -/
/-- what a tick leaves alone -/
def zcfg (f j : Nat) : Bool := match f with
  | 0 => (match j with | 2 => true | 3 => true | 4 => true | 5 => true | 6 => true | 15 => true | _ => false)
  | 1 => true | 3 => true | 4 => true | 5 => true | 6 => true
  | f => decide (8 ≤ f ∧ f < 41)
def zsc (M M' : zSg) : Prop := ∀ f j, zcfg f j = true → M' f j = M f j
theorem zsc_r (M : zSg) : zsc M M := fun _ _ _ => rfl
theorem zsc_t {A B C : zSg} (h : zsc A B) (h2 : zsc B C) : zsc A C := fun f j hf => (h2 f j hf).trans (h f j hf)
theorem zsc_up {A B : zSg} (h : zsc A B) {f j : Nat} (v : Int32) (hf : zcfg f j = false) : zsc A (zup B f j v) := by
  intro f' j' h'
  unfold zup
  by_cases h1 : f' = f
  · by_cases h2 : j' = j
    · subst h1; subst h2
      rw [hf] at h'
      cases h'
    · rw [if_pos h1, if_neg h2]
      exact h f' j' h'
  · rw [if_neg h1]
    exact h f' j' h'
/-- ranges kept, the settings kept -/
def zk (M M' : zSg) : Prop := zmW M' ∧ zsc M M'
theorem zk_up {M M' : zSg} (h : zk M M') {f j : Nat} {v : Int32} (hf : zcfg f j = false) (hv : zr1 v (zlo f j) (zhi f j)) : zk M (zup M' f j v) := ⟨zmW_up h.1 hv, zsc_up h.2 v hf⟩
theorem zk_r {M : zSg} (h : zmW M) : zk M M := ⟨h, zsc_r M⟩
theorem zk_t {A B C : zSg} (h : zk A B) (h2 : zk B C) : zk A C := ⟨h2.1, zsc_t h.2 h2.2⟩
theorem zk_fold {M : zSg} (body : Nat → zSg → zSg) (h : ∀ k s, zk M s → zk M (body k s)) (L : List Nat) : ∀ s, zk M s → zk M (L.foldl (fun s i => body i s) s) := by
  induction L with
  | nil => intro s hs; exact hs
  | cons a L ih => intro s hs; exact ih _ (h a s hs)
theorem zst_1 : zr1 1 0 6 := ⟨by decide, by decide⟩
theorem zst_2 : zr1 2 0 6 := ⟨by decide, by decide⟩
theorem zst_3 : zr1 3 0 6 := ⟨by decide, by decide⟩
theorem zst_4 : zr1 4 0 6 := ⟨by decide, by decide⟩
theorem zst_5 : zr1 5 0 6 := ⟨by decide, by decide⟩
theorem zst_6 : zr1 6 0 6 := ⟨by decide, by decide⟩
theorem zr_m1 : zr1 (-1) (-1) 15 := ⟨by decide, by decide⟩
theorem zk_ready {M M' : zSg} (h : zk M M') (t : Int32) : zk M (mF_ready M' t) :=
  zk_up (zk_up (zk_up h (f := 41) (by rfl) zst_1) (f := 45) (by rfl) (zr_any _)) (f := 0) (j := 9) (by rfl) (zr_any _)
theorem zk_wake {M M' : zSg} (h : zk M M') (t : Int32) : zk M (mF_wake M' t) := by
  unfold mF_wake
  refine zk_ready ?_ t
  have h1 : zk M (if M' 0 2 = 1 then zup M' 46 (ix t) (if 0 < M' 46 (ix t) - 1 then M' 46 (ix t) - 1 else 0) else M') := by
    split
    · exact zk_up h (by rfl) (zlv h.1 _)
    · exact h
  generalize (if M' 0 2 = 1 then zup M' 46 (ix t) (if 0 < M' 46 (ix t) - 1 then M' 46 (ix t) - 1 else 0) else M') = M1 at h1
  split
  · exact zk_up h1 (by rfl) (zr_any _)
  · exact h1
theorem zk_leave {M M' : zSg} (h : zk M M') (t : Int32) : zk M (mF_leave M' t) := by
  refine zk_fold (mB_leave t) (fun k s hs => ?_) _ _ h
  unfold mB_leave
  split
  · exact zk_up hs (f := 68) (by rfl) zr_m1
  · exact hs
def mB_next (M : zSg) (its place : Int32) (k : Nat) (s : Int32) : Int32 :=
  if M 41 k = its then (if M 49 k = place then (if s = -1 then nI k else
    if its = 4 then (if mF_lent M (nI k) < mF_lent M s then nI k else
        if its = 5 then (if M 50 k < M 50 (ix s) then nI k else s) else if mF_lent M (nI k) = mF_lent M s then (if M 50 k < M 50 (ix s) then nI k else s) else s)
    else if its = 5 then (if M 50 k < M 50 (ix s) then nI k else s) else if mF_lent M (nI k) = mF_lent M s then (if M 50 k < M 50 (ix s) then nI k else s) else s) else s) else s
def mF_next (M : zSg) (its place : Int32) : Int32 := (List.range (ix (M 0 15))).foldl (fun s i => mB_next M its place i s) (-1)
theorem zr_nI {k : Nat} (h : k < 16) : zr1 (nI k) (-1) 15 := by
  have := nI_toInt (n := k) (by omega)
  exact ⟨by omega, by omega⟩
theorem zr_next1 (M : zSg) (its place : Int32) {k : Nat} {s : Int32} (hk : k < 16) (hs : zr1 s (-1) 15) : zr1 (mB_next M its place k s) (-1) 15 := by
  unfold mB_next
  repeat' split
  all_goals first | exact hs | exact zr_nI hk
theorem zfold_i {P : Int32 → Prop} (body : Nat → Int32 → Int32) (n : Nat) (h : ∀ k s, k < n → P s → P (body k s)) {s : Int32} (hs : P s) : P ((List.range n).foldl (fun s i => body i s) s) := by
  induction n with
  | zero => exact hs
  | succ n ih =>
    rw [List.range_succ, List.foldl_append]
    exact h n _ (by omega) (ih (fun k s hk => h k s (by omega)))
theorem zr_next {M : zSg} (hW : zmW M) (its place : Int32) : zr1 (mF_next M its place) (-1) 15 :=
  zfold_i (P := fun s => zr1 s (-1) 15) _ _ (fun k s hk hs => zr_next1 M its place (by have := zmW_n16 hW; omega) hs) ⟨by decide, by decide⟩
def mF_free (M : zSg) (l : Int32) : zSg :=
  let M1 := zup M 101 (ix l) (-1)
  if mF_next M1 4 l = -1 then M1 else
    let nx := mF_next M1 4 l
    let M2 := zup M1 101 (ix l) nx
    mF_wake (zup M2 42 (ix nx) (M2 42 (ix nx) + 1)) nx
theorem zk_free {M M' : zSg} (h : zk M M') (l : Int32) : zk M (mF_free M' l) := by
  unfold mF_free
  have h1 : zk M (zup M' 101 (ix l) (-1)) := zk_up h (f := 101) (by rfl) zr_m1
  dsimp only
  generalize zup M' 101 (ix l) (-1) = M1 at h1
  split
  · exact h1
  · exact zk_wake (zk_up (zk_up h1 (f := 101) (by rfl) (zr_next h1.1 _ _)) (f := 42) (by rfl) (zr_any _)) _
def mF_signal (M : zSg) (e : Int32) : zSg :=
  if mF_next M 5 e = -1 then zup M 102 (ix e) (if M 102 (ix e) + 1 < 99 then M 102 (ix e) + 1 else 99) else
    let nx := mF_next M 5 e
    mF_wake (zup M 42 (ix nx) (M 42 (ix nx) + 1)) nx
theorem zinc {x : Int32} {b : Int} (h : zr1 x 0 b) (hb : b < 2147483647) : zr1 (x + 1) 0 (b + 1) := by
  have h1 := h.1
  have h2 := h.2
  have e : (x + 1).toInt = x.toInt + 1 := fb_addI (y := 1) (by rw [show (1 : Int32).toInt = 1 from rfl]; omega) (by rw [show (1 : Int32).toInt = 1 from rfl]; omega)
  exact ⟨by rw [e]; omega, by rw [e]; omega⟩
theorem zk_signal {M M' : zSg} (h : zk M M') (e : Int32) : zk M (mF_signal M' e) := by
  unfold mF_signal
  split
  · refine zk_up h (f := 102) (by rfl) ?_
    have h1 := zinc (b := 99) (h.1 102 (ix e)) (by decide)
    split
    · rename_i hlt
      rw [Int32.lt_iff_toInt_lt, show (99 : Int32).toInt = 99 from rfl] at hlt
      exact ⟨h1.1, by show (M' 102 (ix e) + 1).toInt ≤ 99; omega⟩
    · exact (show zr1 99 0 99 from ⟨by decide, by decide⟩)
  · exact zk_wake (zk_up h (f := 42) (by rfl) (zr_any _)) _
def mB_finish (t : Int32) (q : Nat) (M : zSg) : zSg := if M 101 q = t then mF_free M (nI q) else M
def mF_finish (M : zSg) (t : Int32) : zSg :=
  let M1 := zup (mF_leave M t) 41 (ix t) 6
  let M2 := zup M1 42 (ix t) (M1 6 (ix t))
  let M3 := zup M2 (52 + ix t) (ix 4) (M2 0 1)
  (List.range 6).foldl (fun s i => mB_finish t i s) M3
theorem zcfg_cnt (t j : Nat) (ht : t < 16) : zcfg (52 + t) j = false := by
  have : ∀ t, t < 16 → ∀ j, zcfg (52 + t) j = false := by
    intro t ht j
    match t, ht with
    | 0, _ => rfl
    | 1, _ => rfl
    | 2, _ => rfl
    | 3, _ => rfl
    | 4, _ => rfl
    | 5, _ => rfl
    | 6, _ => rfl
    | 7, _ => rfl
    | 8, _ => rfl
    | 9, _ => rfl
    | 10, _ => rfl
    | 11, _ => rfl
    | 12, _ => rfl
    | 13, _ => rfl
    | 14, _ => rfl
    | 15, _ => rfl
    | t + 16, h => exact absurd h (by omega)
  exact this t ht j
theorem zk_cnt {M M' : zSg} (h : zk M M') {t : Nat} (ht : t < 16) (j : Nat) (v : Int32) : zk M (zup M' (52 + t) j v) := by
  refine zk_up h (zcfg_cnt t j ht) ?_
  have : zlo (52 + t) j = -2147483648 ∧ zhi (52 + t) j = 2147483647 := by
    have : ∀ t, t < 16 → ∀ j, zlo (52 + t) j = -2147483648 ∧ zhi (52 + t) j = 2147483647 := by
      intro t ht j
      match t, ht with
      | 0, _ => exact ⟨rfl, rfl⟩
      | 1, _ => exact ⟨rfl, rfl⟩
      | 2, _ => exact ⟨rfl, rfl⟩
      | 3, _ => exact ⟨rfl, rfl⟩
      | 4, _ => exact ⟨rfl, rfl⟩
      | 5, _ => exact ⟨rfl, rfl⟩
      | 6, _ => exact ⟨rfl, rfl⟩
      | 7, _ => exact ⟨rfl, rfl⟩
      | 8, _ => exact ⟨rfl, rfl⟩
      | 9, _ => exact ⟨rfl, rfl⟩
      | 10, _ => exact ⟨rfl, rfl⟩
      | 11, _ => exact ⟨rfl, rfl⟩
      | 12, _ => exact ⟨rfl, rfl⟩
      | 13, _ => exact ⟨rfl, rfl⟩
      | 14, _ => exact ⟨rfl, rfl⟩
      | 15, _ => exact ⟨rfl, rfl⟩
      | t + 16, h => exact absurd h (by omega)
    exact this t ht j
  rw [this.1, this.2]
  exact zr_any v
theorem zk_finish {M M' : zSg} (h : zk M M') {t : Int32} (ht : vp_in t 16) : zk M (mF_finish M' t) := by
  unfold mF_finish
  refine zk_fold (mB_finish t) (fun k s hs => ?_) _ _ ?_
  · unfold mB_finish
    split
    · exact zk_free hs _
    · exact hs
  · exact zk_cnt (zk_up (zk_up (zk_leave h t) (f := 41) (by rfl) zst_6) (f := 42) (by rfl) (zr_any _)) (zin_lt ht) _ _
def mB_expire (p : Nat) (M : zSg) : zSg :=
  if M 68 p = -1 then M else if M 0 2 = 2 then M else if M 69 p < (if M 0 2 = 0 then M 0 3 else M 0 3 <<< (M 46 (ix (M 68 p)) &&& 31)) then M else
    let M1 := if M 0 2 = 1 then zup M 46 (ix (M 68 p)) (if M 46 (ix (M 68 p)) + 1 < 3 then M 46 (ix (M 68 p)) + 1 else 3) else M
    mF_ready (zup M1 68 p (-1)) (M 68 p)
def mF_expire (M : zSg) : zSg := (List.range (ix (M 0 6))).foldl (fun s i => mB_expire i s) M
theorem zlv2 {M : zSg} (h : zmW M) (t : Nat) : zr1 (if M 46 t + 1 < 3 then M 46 t + 1 else 3) 0 3 := by
  have h1 := zinc (b := 3) (h 46 t) (by decide)
  split
  · rename_i hlt
    rw [Int32.lt_iff_toInt_lt, show (3 : Int32).toInt = 3 from rfl] at hlt
    exact ⟨h1.1, by omega⟩
  · exact ⟨by decide, by decide⟩
theorem zk_expire1 {M M' : zSg} (h : zk M M') (p : Nat) : zk M (mB_expire p M') := by
  unfold mB_expire
  split
  · exact h
  · split
    · exact h
    · have h1 : zk M (if M' 0 2 = 1 then zup M' 46 (ix (M' 68 p)) (if M' 46 (ix (M' 68 p)) + 1 < 3 then M' 46 (ix (M' 68 p)) + 1 else 3) else M') := by
        split
        · exact zk_up h (by rfl) (zlv2 h.1 _)
        · exact h
      have h2 : zk M (mF_ready (zup (if M' 0 2 = 1 then zup M' 46 (ix (M' 68 p)) (if M' 46 (ix (M' 68 p)) + 1 < 3 then M' 46 (ix (M' 68 p)) + 1 else 3) else M') 68 p (-1)) (M' 68 p)) := zk_ready (zk_up h1 (f := 68) (by rfl) zr_m1) _
      generalize (if M' 0 2 = 0 then M' 0 3 else M' 0 3 <<< (M' 46 (ix (M' 68 p)) &&& 31)) = q9
      split
      · exact h
      · exact h2
theorem zk_expire {M M' : zSg} (h : zk M M') : zk M (mF_expire M') := zk_fold mB_expire (fun k s hs => zk_expire1 hs k) _ _ h
def mQ_ahead (M : zSg) (t : Int32) : Bool := if M 41 (ix t) = 2 then true else false
def mS_ahead (M : zSg) (t oth : Int32) : Bool := if M 45 (ix t) < M 45 (ix oth) then true else false
def mF_isAhead (M : zSg) (t lent oth olent : Int32) : Bool :=
  if lent = olent then (if M 41 (ix t) = 2 then (if M 41 (ix oth) = 2 then mS_ahead M t oth else mQ_ahead M t) else (if M 41 (ix oth) = 2 then mQ_ahead M t else mS_ahead M t oth))
  else (if lent < olent then true else false)
def mF_give0 (M : zSg) (p t : Int32) : zSg :=
  let M1 := zup (zup (zup M 68 (ix p) t) 69 (ix p) 0) 41 (ix t) 2
  zup M1 0 11 (M1 0 11 + 1)
def mF_give (M : zSg) (t : Int32) : zSg := if M 68 (ix 0) = -1 then mF_give0 M 0 t else if M 68 (ix (0 + 1)) = -1 then mF_give0 M (0 + 1) t else mF_give0 M (0 + 1 + 1) t
theorem zk_give0 {M M' : zSg} (h : zk M M') {p t : Int32} (ht : vp_in t 16) : zk M (mF_give0 M' p t) := by
  unfold mF_give0
  exact zk_up (zk_up (zk_up (zk_up h (f := 68) (by rfl) (zr_in (a := -1) (b := 15) ht (by decide) (by decide))) (f := 69) (by rfl) (zr_any _)) (f := 41) (by rfl) zst_2) (f := 0) (j := 11) (by rfl) (zr_any _)
theorem zk_give {M M' : zSg} (h : zk M M') {t : Int32} (ht : vp_in t 16) : zk M (mF_give M' t) := by
  unfold mF_give
  repeat' split
  all_goals exact zk_give0 h ht
def mF_runTail (M : zSg) (t n : Int32) : zSg :=
  if M 44 (ix t) < n then M else
    let M1 := zup M 44 (ix t) 0
    let M2 := zup M1 42 (ix t) (M1 42 (ix t) + 1)
    if M2 42 (ix t) < M2 6 (ix t) then M2 else
      let M3 := zup M2 43 (ix t) (M2 43 (ix t) + 1)
      let M4 := zup M3 42 (ix t) 0
      if M4 43 (ix t) = M4 5 (ix t) then mF_finish M4 t else M4
def mF_runC (M : zSg) (t p n : Int32) : zSg :=
  let M5 := zup M 69 (ix p) (M 69 (ix p) + 1)
  mF_runTail (zup M5 44 (ix t) (M5 44 (ix t) + 1)) t n
def mF_runB (M : zSg) (t p n : Int32) : zSg :=
  let M2 := zup M (52 + ix t) (ix 0) (M (52 + ix t) (ix 0) + 1)
  let M3 := zup M2 2 (ix (M2 4 (ix t))) (M2 2 (ix (M2 4 (ix t))) + 1)
  if M3 0 2 = 2 then mF_runC (zup M3 47 (ix t) (M3 47 (ix t) + 840 / (8 - M3 3 (ix t)))) t p n else mF_runC M3 t p n
def mF_runOne (M : zSg) (t p n : Int32) : zSg := if M (52 + ix t) (ix 0) = 0 then mF_runB (zup M (52 + ix t) (ix 3) (M 0 1)) t p n else mF_runB M t p n
theorem zk_runTail {M M' : zSg} (h : zk M M') {t : Int32} (ht : vp_in t 16) (n : Int32) : zk M (mF_runTail M' t n) := by
  unfold mF_runTail
  split
  · exact h
  · have h1 : zk M (zup (zup M' 44 (ix t) 0) 42 (ix t) ((zup M' 44 (ix t) 0) 42 (ix t) + 1)) := zk_up (zk_up h (f := 44) (by rfl) (zr_any _)) (f := 42) (by rfl) (zr_any _)
    dsimp only
    split
    · exact h1
    · have h2 := zk_up (zk_up h1 (f := 43) (j := ix t) (v := (zup (zup M' 44 (ix t) 0) 42 (ix t) ((zup M' 44 (ix t) 0) 42 (ix t) + 1)) 43 (ix t) + 1) (by rfl) (zr_any _)) (f := 42) (j := ix t) (v := 0) (by rfl) (zr_any _)
      split
      · exact zk_finish h2 ht
      · exact h2
theorem zk_runC {M M' : zSg} (h : zk M M') {t : Int32} (ht : vp_in t 16) (p n : Int32) : zk M (mF_runC M' t p n) := by
  unfold mF_runC
  exact zk_runTail (zk_up (zk_up h (f := 69) (by rfl) (zr_any _)) (f := 44) (by rfl) (zr_any _)) ht n
theorem zk_runB2 {M M' : zSg} (h : zk M M') {t : Int32} (ht : vp_in t 16) : zk M (zup M' (52 + ix t) (ix 0) (M' (52 + ix t) (ix 0) + 1)) := zk_cnt h (zin_lt ht) _ _
theorem zk_runB3 {M M' : zSg} (h : zk M M') (j : Nat) (v : Int32) : zk M (zup M' 2 j v) := zk_up h (f := 2) (by rfl) (zr_any _)
theorem zk_runB {M M' : zSg} (h : zk M M') {t : Int32} (ht : vp_in t 16) (p n : Int32) : zk M (mF_runB M' t p n) := by
  unfold mF_runB
  have h3 := zk_runB3 (zk_runB2 h ht) (ix (zup M' (52 + ix t) (ix 0) (M' (52 + ix t) (ix 0) + 1) 4 (ix t))) (zup M' (52 + ix t) (ix 0) (M' (52 + ix t) (ix 0) + 1) 2 (ix (zup M' (52 + ix t) (ix 0) (M' (52 + ix t) (ix 0) + 1) 4 (ix t))) + 1)
  dsimp only
  split
  · exact zk_runC (zk_up h3 (f := 47) (by rfl) (zr_any _)) ht p n
  · exact zk_runC h3 ht p n
theorem zk_runOne {M M' : zSg} (h : zk M M') {t : Int32} (ht : vp_in t 16) (p n : Int32) : zk M (mF_runOne M' t p n) := by
  unfold mF_runOne
  split
  · exact zk_runB (zk_cnt h (zin_lt ht) _ _) ht p n
  · exact zk_runB h ht p n
def mF_stay (M : zSg) (t its place : Int32) : zSg :=
  let M1 := zup (zup (mF_leave M t) 41 (ix t) its) 49 (ix t) place
  let M2 := zup M1 50 (ix t) (M1 0 10)
  zup M2 0 10 (M2 0 10 + 1)
theorem zk_stay {M M' : zSg} (h : zk M M') (t its place : Int32) (hi : zr1 its 0 6) (hp : zr1 place 0 5) : zk M (mF_stay M' t its place) := by
  unfold mF_stay
  exact zk_up (zk_up (zk_up (zk_up (zk_leave h t) (f := 41) (by rfl) hi) (f := 49) (by rfl) hp) (f := 50) (by rfl) (zr_any _)) (f := 0) (j := 10) (by rfl) (zr_any _)
def mD_sleep (M : zSg) (t n : Int32) : zSg :=
  let M1 := zup (mF_leave M t) 41 (ix t) 3
  zup M1 48 (ix t) (M1 0 1 + n)
def mD_go (M : zSg) (t its n : Int32) : zSg :=
  let M1 := zup M 42 (ix t) (M 42 (ix t) + 1)
  if its = 1 then mD_sleep M1 t n else if its = 2 then zup M1 101 (ix n) t else if its = 3 then (if M1 101 (ix n) = t then mF_free M1 n else M1) else if its = 4 then mF_signal M1 n else if its = 5 then zup M1 102 (ix n) (M1 102 (ix n) - 1) else mF_ready (mF_leave M1 t) t
def mD_aw (M : zSg) (t its n : Int32) : zSg := if its = 5 then (if M 102 (ix n) = 0 then mF_stay M t 5 n else mD_go M t its n) else mD_go M t its n
def mF_doStep (M : zSg) (t its n : Int32) : zSg := if its = 2 then (if M 101 (ix n) = -1 then mD_aw M t its n else if M 101 (ix n) = t then mD_aw M t its n else mF_stay M t 4 n) else mD_aw M t its n
theorem zdiv8 {x : Int32} (h : zr1 x 0 7) : ¬ 8 - x = 0 := by
  intro e
  have h1 : (8 - x).toInt = 8 - x.toInt := fb_subI (x := 8) (by rw [show (8 : Int32).toInt = 8 from rfl]; have := h.1; have := h.2; omega) (by rw [show (8 : Int32).toInt = 8 from rfl]; have := h.1; have := h.2; omega)
  rw [e, show (0 : Int32).toInt = 0 from rfl] at h1
  have := h.2
  omega
