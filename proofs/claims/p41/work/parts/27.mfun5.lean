/-! The reference's tick -/
def mT_a (M : zSg) : zSg := if M 0 1 - M 0 1 / M 0 5 * M 0 5 = 0 then (List.range 4).foldl (fun s i => zup s 2 i 0) M else M
def mT_b (M : zSg) : zSg := if M 0 2 = 1 then (if 0 < M 0 4 then (if M 0 1 - M 0 1 / M 0 4 * M 0 4 = 0 then (List.range (ix (M 0 15))).foldl (fun s i => zup s 46 i 0) M else M) else M) else M
def mB_wk (k : Nat) (s : zSg) : zSg := if s 41 k = 3 then (if s 0 1 < s 48 k then s else mF_wake s (nI k)) else s
def mT_c (M : zSg) : zSg := (List.range (ix (M 0 15))).foldl (fun s i => mB_wk i s) M
def mF_gok (T : Nat → Int32) (c : Nat) (M : zSg) : Bool := (List.range c).all fun k => (mF_gives T k M 41 (ix (T k)) == 2) || (mF_gives T k M 68 (ix 0) == -1) || (mF_gives T k M 68 (ix (0 + 1)) == -1) || (mF_gives T k M 68 (ix (0 + 1 + 1)) == -1)
theorem mF_gok_of {T : Nat → Int32} {c : Nat} {M : zSg} (h : mF_gok T c M = true) : ∀ k, k < c → ¬ mF_gives T k M 41 (ix (T k)) = 2 → ∀ s, s = mF_gives T k M → ¬ s 68 (ix 0) = -1 → ¬ s 68 (ix (0 + 1)) = -1 → s 68 (ix (0 + 1 + 1)) = -1 := by
  intro k hk h2 s hs h0 h1
  subst hs
  unfold mF_gok at h
  rw [List.all_eq_true] at h
  have := h k (List.mem_range.mpr hk)
  simp only [Bool.or_eq_true, beq_iff_eq] at this
  rcases this with ((h | h) | h) | h
  · exact absurd h h2
  · exact absurd h h0
  · exact absurd h h1
  · exact h
def mF_take (f : Nat) (M : zSg) : Option zSg := match mF_tk M (mF_left M).1 f (mF_left M).2 0 (M 2) (fun _ => 0) with
  | none => none
  | some r => if mF_gok r.2 r.1 (mF_keep r.2 r.1 M) = true then some (mF_gives r.2 r.1 (mF_keep r.2 r.1 M)) else none
def zcpyr (M : zSg) (a b : Nat) : zSg := fun f i => if f = b then (if i < 3 then M a i else M f i) else M f i
def mF_sh : Nat → zSg → zSg
  | 0, M => M
  | j + 1, M => mF_sh j (zcpyr M (71 + j) (71 + (j + 1)))
def mT_fill (M : zSg) : zSg := (List.range 3).foldl (fun s i => zup s (71 + ix 0) i (-1)) M
def mT_aft (b : Bool) (k : Nat) (t : Int32) (M : zSg) : zSg :=
  let M1 := if b = true then zup M (71 + ix 0) k t else M
  let M2 := zup M1 0 12 (M1 0 12 + (if M1 (71 + ix 0) k = -1 then 1 else 0))
  let M3 := zup M2 0 13 (M2 0 13 + (if M2 (71 + ix 0) k = -1 then 0 else 1))
  zup M3 0 14 (M3 0 14 + 1)
def mT_go (f : Nat) (M : zSg) (k : Nat) : Option (Bool × zSg) := if M 68 k = -1 then some (false, M) else mF_goOn f M (M 68 k) (nI k)
def mT_pl (f : Nat) : Nat → Nat → zSg → Option zSg
  | 0, _, M => some M
  | j + 1, k, M => (mT_go f M k).bind fun r => mT_pl f j (k + 1) (mT_aft r.1 k (M 68 k) r.2)
def mB_cw (k : Nat) (s : zSg) : zSg :=
  let s1 := zup s (52 + k) (ix 1) (s (52 + k) (ix 1) + (if s 41 k = 1 then 1 else 0))
  zup s1 (52 + k) (ix 2) (s1 (52 + k) (ix 2) + (if s1 41 k = 4 then 1 else 0))
def mT_cw (M : zSg) : zSg := (List.range (ix (M 0 15))).foldl (fun s i => mB_cw i s) M
def mT_end (M : zSg) : zSg := zup (mT_cw M) 0 1 ((mT_cw M) 0 1 + 1)
def mT_run (f : Nat) (M : zSg) : Option zSg := (mT_pl f (ix (M 0 6)) 0 M).map mT_end
def mF_tick (f : Nat) (M : zSg) : Option zSg := (mF_take f (mF_expire (mT_c (mT_b (mT_a M))))).bind fun M3 => mT_run f (mT_fill (mF_sh 29 M3))
theorem zk_ta {M M' : zSg} (h : zk M M') : zk M (mT_a M') := by
  unfold mT_a
  split
  · exact zk_fold (fun i s => zup s 2 i 0) (fun k s hs => zk_up hs (f := 2) (by rfl) (zr_any _)) _ _ h
  · exact h
theorem zk_tb {M M' : zSg} (h : zk M M') : zk M (mT_b M') := by
  unfold mT_b
  repeat' split
  · exact zk_fold (fun i s => zup s 46 i 0) (fun k s hs => zk_up hs (f := 46) (by rfl) (show zr1 0 0 3 from ⟨by decide, by decide⟩)) _ _ h
  all_goals exact h
theorem zk_wk1 {M M' : zSg} (h : zk M M') (k : Nat) : zk M (mB_wk k M') := by
  unfold mB_wk
  repeat' split
  · exact h
  · exact zk_wake h _
  · exact h
theorem zk_tc {M M' : zSg} (h : zk M M') : zk M (mT_c M') := zk_fold mB_wk (fun k s hs => zk_wk1 hs k) _ _ h
theorem zk_fi {M : zSg} (body : Nat → zSg → zSg) (n : Nat) (h : ∀ k s, k < n → zk M s → zk M (body k s)) {s : zSg} (hs : zk M s) : zk M ((List.range n).foldl (fun s i => body i s) s) := by
  induction n with
  | zero => exact hs
  | succ n ih =>
    rw [List.range_succ, List.foldl_append]
    exact h n _ (by omega) (ih (fun k s hk => h k s (by omega)))
theorem zk_gives {M M' : zSg} (h : zk M M') {T : Nat → Int32} (c : Nat) (ht : ∀ k, k < c → vp_in (T k) 16) : zk M (mF_gives T c M') :=
  zk_fi (mB_give T) c (fun k s hk hs => zk_give1 hs (ht k hk)) h
theorem zk_take {M M' M3 : zSg} (h : zk M M') {f : Nat} (ht : mF_take f M' = some M3) : zk M M3 := by
  unfold mF_take at ht
  cases hr : mF_tk M' (mF_left M').1 f (mF_left M').2 0 (M' 2) (fun _ => 0) with
  | none => rw [hr] at ht; cases ht
  | some r =>
    obtain ⟨c, T⟩ := r
    rw [hr] at ht
    dsimp only at ht
    split at ht
    · cases ht
      obtain ⟨hTin, hc3⟩ := mF_tk_in h.1 f _ 0 _ _ c T (fun k hk => absurd hk (Nat.not_lt_zero k)) (by decide) hr
      exact zk_gives (zk_keep h T c) c hTin
    · cases ht
theorem zranw (f : Nat) (h : 71 ≤ f ∧ f < 101) (j : Nat) : zcfg f j = false ∧ zlo f j = -2147483648 ∧ zhi f j = 2147483647 := by
  have : ∀ t, t < 30 → ∀ j, zcfg (71 + t) j = false ∧ zlo (71 + t) j = -2147483648 ∧ zhi (71 + t) j = 2147483647 := by
    intro t ht j
    match t, ht with
    | 0, _ => exact ⟨rfl, rfl, rfl⟩
    | 1, _ => exact ⟨rfl, rfl, rfl⟩
    | 2, _ => exact ⟨rfl, rfl, rfl⟩
    | 3, _ => exact ⟨rfl, rfl, rfl⟩
    | 4, _ => exact ⟨rfl, rfl, rfl⟩
    | 5, _ => exact ⟨rfl, rfl, rfl⟩
    | 6, _ => exact ⟨rfl, rfl, rfl⟩
    | 7, _ => exact ⟨rfl, rfl, rfl⟩
    | 8, _ => exact ⟨rfl, rfl, rfl⟩
    | 9, _ => exact ⟨rfl, rfl, rfl⟩
    | 10, _ => exact ⟨rfl, rfl, rfl⟩
    | 11, _ => exact ⟨rfl, rfl, rfl⟩
    | 12, _ => exact ⟨rfl, rfl, rfl⟩
    | 13, _ => exact ⟨rfl, rfl, rfl⟩
    | 14, _ => exact ⟨rfl, rfl, rfl⟩
    | 15, _ => exact ⟨rfl, rfl, rfl⟩
    | 16, _ => exact ⟨rfl, rfl, rfl⟩
    | 17, _ => exact ⟨rfl, rfl, rfl⟩
    | 18, _ => exact ⟨rfl, rfl, rfl⟩
    | 19, _ => exact ⟨rfl, rfl, rfl⟩
    | 20, _ => exact ⟨rfl, rfl, rfl⟩
    | 21, _ => exact ⟨rfl, rfl, rfl⟩
    | 22, _ => exact ⟨rfl, rfl, rfl⟩
    | 23, _ => exact ⟨rfl, rfl, rfl⟩
    | 24, _ => exact ⟨rfl, rfl, rfl⟩
    | 25, _ => exact ⟨rfl, rfl, rfl⟩
    | 26, _ => exact ⟨rfl, rfl, rfl⟩
    | 27, _ => exact ⟨rfl, rfl, rfl⟩
    | 28, _ => exact ⟨rfl, rfl, rfl⟩
    | 29, _ => exact ⟨rfl, rfl, rfl⟩
    | t + 30, h => exact absurd h (by omega)
  obtain ⟨t, rfl⟩ : ∃ t, f = 71 + t := ⟨f - 71, by omega⟩
  exact this t (by omega) j
theorem zk_ran {M M' : zSg} (h : zk M M') {f : Nat} (hf : 71 ≤ f ∧ f < 101) (j : Nat) (v : Int32) : zk M (zup M' f j v) := by
  obtain ⟨h1, h2, h3⟩ := zranw f hf j
  exact zk_up h h1 (by rw [h2, h3]; exact zr_any _)
theorem zk_cpyr {M M' : zSg} (h : zk M M') {a b : Nat} (hb : 71 ≤ b ∧ b < 101) : zk M (zcpyr M' a b) := by
  refine ⟨fun f j => ?_, fun f j hf => ?_⟩
  · unfold zcpyr
    split
    · rename_i e
      subst e
      obtain ⟨h1, h2, h3⟩ := zranw f hb j
      rw [h2, h3]
      exact zr_any _
    · exact h.1 f j
  · unfold zcpyr
    split
    · rename_i e
      subst e
      rw [(zranw f hb j).1] at hf
      cases hf
    · exact h.2 f j hf
theorem zk_sh {M : zSg} : ∀ (j : Nat) {M' : zSg}, j ≤ 29 → zk M M' → zk M (mF_sh j M')
  | 0, _, _, h => h
  | j + 1, _, hj, h => zk_sh j (by omega) (zk_cpyr h (by omega))
theorem zk_fill {M M' : zSg} (h : zk M M') : zk M (mT_fill M') := zk_fold (fun i s => zup s (71 + ix 0) i (-1)) (fun k s hs => zk_ran hs (f := 71) (by decide) _ _) _ _ h
theorem zk_aft {M M' : zSg} (h : zk M M') (b : Bool) (k : Nat) (t : Int32) : zk M (mT_aft b k t M') := by
  unfold mT_aft
  dsimp only
  refine zk_up (zk_up (zk_up ?_ (f := 0) (j := 12) (by rfl) (zr_any _)) (f := 0) (j := 13) (by rfl) (zr_any _)) (f := 0) (j := 14) (by rfl) (zr_any _)
  split
  · exact zk_ran h (f := 71) (by decide) _ _
  · exact h
theorem zk_tgo {M M' : zSg} (h : zk M M') {f k : Nat} {r : Bool × zSg} (hk : k < 3) (hr : mT_go f M' k = some r) : zk M r.2 := by
  unfold mT_go at hr
  split at hr
  · cases hr; exact h
  · rename_i h1
    obtain ⟨b, M2⟩ := r
    exact zk_goOn (zin_m1 (b := 15) (h.1 68 _) (by decide) h1) f M' h hr
theorem zk_pl {M : zSg} {f : Nat} : ∀ (j k : Nat) {M' M2 : zSg}, k + j ≤ 3 → zk M M' → mT_pl f j k M' = some M2 → zk M M2
  | 0, _, _, _, _, h, hr => by cases hr; exact h
  | j + 1, k, M', M2, hk, h, hr => by
    rw [mT_pl] at hr
    cases hg : mT_go f M' k with
    | none => rw [hg] at hr; cases hr
    | some r =>
      rw [hg] at hr
      exact zk_pl j (k + 1) (by omega) (zk_aft (zk_tgo h (by omega) hg) _ _ _) hr
theorem zk_cw1 {M M' : zSg} (h : zk M M') {k : Nat} (hk : k < 16) : zk M (mB_cw k M') := zk_cnt (zk_cnt h hk _ _) hk _ _
theorem zk_cw {M M' : zSg} (h : zk M M') : zk M (mT_cw M') := zk_fi mB_cw _ (fun k s hk hs => zk_cw1 hs (by have := zmW_n16 h.1; omega)) h
theorem zk_end {M M' : zSg} (h : zk M M') : zk M (mT_end M') := zk_up (zk_cw h) (f := 0) (j := 1) (by rfl) (zr_any _)
theorem zk_run {M M' M2 : zSg} (h : zk M M') {f : Nat} (hr : mT_run f M' = some M2) : zk M M2 := by
  unfold mT_run at hr
  cases hp : mT_pl f (ix (M' 0 6)) 0 M' with
  | none => rw [hp] at hr; cases hr
  | some M3 => rw [hp] at hr; cases hr; exact zk_end (zk_pl _ 0 (by have := zmW_p3 h.1; omega) h hp)
theorem zk_tick {M M' M2 : zSg} (h : zk M M') {f : Nat} (hr : mF_tick f M' = some M2) : zk M M2 := by
  unfold mF_tick at hr
  cases hp : mF_take f (mF_expire (mT_c (mT_b (mT_a M')))) with
  | none => rw [hp] at hr; cases hr
  | some M3 => rw [hp] at hr; exact zk_run (zk_fill (zk_sh 29 (by decide) (zk_take (zk_expire (zk_tc (zk_tb (zk_ta h)))) hp))) hr
theorem nI_m1 (j : Nat) : nI (j + 1) - 1 = nI j := by rw [← nI_1]; exact Int32.add_sub_cancel _ _
theorem nI_m2 (j : Nat) : nI (j + 1) + (-1) = nI j := by rw [← nI_1, Int32.add_assoc, show (1 : Int32) + (-1) = 0 from by decide, Int32.add_zero]
theorem zwr_cpy (σ : zSg) {o a b N : Nat} (M : zSg) (ha : a < N) (hb : b < N) : zrow (zwr σ o N M) (o + b) (va_cpy (zwr σ o N M (o + a)) (zwr σ o N M (o + b)) (ix 0) (ix 0) (ix 3)) = zwr σ o N (zcpyr M a b) := by
  funext x
  by_cases hx : x = o + b
  · subst hx
    rw [zrow_eq]
    funext j
    rw [zwr_in _ _ j hb]
    unfold va_cpy zcpyr
    rw [if_pos rfl, zwr_in _ _ j hb, show (ix 0 : Nat) = 0 from rfl, show (ix 3 : Nat) = 3 from rfl]
    by_cases hj : j < 3
    · rw [if_pos (by omega), if_pos hj, show 0 + (j - 0) = j from by omega, zwr_in _ _ j ha]
    · rw [if_neg (by omega), if_neg hj]
  · rw [zrow_ne _ _ hx]
    funext j
    unfold zwr zcpyr
    by_cases h1 : o ≤ x ∧ x < o + N
    · rw [if_pos h1, if_pos h1, if_neg (by omega)]
    · rw [if_neg h1, if_neg h1]
