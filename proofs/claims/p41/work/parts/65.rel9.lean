/-! The trace is left alone by most -/
section ZKF
variable {A C M : zSg}
theorem kc_ready (h : zKc A C) (i : Nat) : zKc A (cF_ready C i) := zKc_up (zKc_ut (zKc_ut h)) (by decide)
theorem kc_wake (h : zKc A C) (i : Nat) : zKc A (cF_wake C i) := by
  rw [cF_wake_ch]
  exact zKc_up (zKc_ut (zKc_ut (zKc_ut (zKc_ut h)))) (by decide)
theorem kc_leave (h : zKc A C) (i : Nat) : zKc A (cF_leave C i) := fun a b q => by
  rw [cF_leave_at, if_neg (by omega)]
  exact h a b q
theorem kc_unlock (h : zKc A C) (i : Nat) (q : Int32) : zKc A (cF_unlock C i q) := by
  have hL := zKc_lf h (cF_lent_fr C)
  unfold cF_unlock
  split
  · exact h
  · split
    · split
      · cases cF_heir (cF_lent C) q with
        | none => exact zKc_up hL (by decide)
        | some j => exact kc_wake (zKc_ut (zKc_up hL (by decide))) j
      · exact h
    · exact h
theorem kc_signal (h : zKc A C) (q : Int32) : zKc A (cF_signal C q) := by
  unfold cF_signal
  split
  · exact h
  · split
    · cases cF_sig C q with
      | none =>
        show zKc A (if C 11 (ix q) < 99 then zup C 11 (ix q) (C 11 (ix q) + 1) else C)
        split
        · exact zKc_up h (by decide)
        · exact h
      | some j => exact kc_wake (zKc_ut h) j
    · exact h
theorem kc_waitFor (h : zKc A C) (i : Nat) (st w : Int32) : zKc A (cF_waitFor C i st w) := zKc_up (zKc_ut (zKc_ut (zKc_ut (kc_leave h i)))) (by decide)
theorem kc_lockBy (h : zKc A C) (i : Nat) (q : Int32) : zKc A (cF_lockBy C i q) := by
  unfold cF_lockBy
  repeat' split
  all_goals first | exact h | exact zKc_up h (by decide) | exact kc_waitFor h i 4 q
theorem kc_awaitBy (h : zKc A C) (i : Nat) (q : Int32) : zKc A (cF_awaitBy C i q) := by
  unfold cF_awaitBy
  repeat' split
  all_goals first | exact h | exact zKc_up h (by decide) | exact kc_waitFor h i 5 q
theorem kc_do (h : zKc A C) (i : Nat) (c n : Int32) : zKc A (cF_do C i c n) := by
  unfold cF_do
  split
  · exact kc_waitFor h i 3 _
  · split
    · exact kc_lockBy h i n
    · split
      · exact kc_unlock h i n
      · split
        · exact kc_signal h n
        · split
          · exact kc_awaitBy h i n
          · exact kc_ready (kc_leave h i) i
theorem kc_ps (i : Nat) : ∀ (j : Nat) {C : zSg}, zKc A C → zKc A (cF_ps i j C)
  | 0, _, h => h
  | j + 1, C, h => by
    rw [cF_ps]
    split
    · split
      · exact h
      · dsimp only
        split
        · exact kc_ps i j (zKc_ut (kc_do (zKc_ut h) i _ _))
        · split
          · exact kc_ps i j (zKc_ut (kc_do (zKc_ut h) i _ _))
          · exact kc_ps i j (kc_do (zKc_ut h) i _ _)
    · exact h
theorem kc_finish (h : zKc A C) (i : Nat) : zKc A (cF_finish C i) := by
  unfold cF_finish
  dsimp only
  have h1 : zKc A (zup (zup (cF_leave C i) (ztk i) 5 6) (ztk i + 4) 4 (zup (cF_leave C i) (ztk i) 5 6 0 9)) := zKc_up (zKc_ut (kc_leave h i)) (by unfold ztk; omega)
  generalize zup (zup (cF_leave C i) (ztk i) 5 6) (ztk i + 4) 4 (zup (cF_leave C i) (ztk i) 5 6 0 9) = C1 at h1 ⊢
  exact zKc_fold (fun q s => cF_unlock s i (nI q)) 6 (fun k s _ hs => kc_unlock hs i _) h1
theorem kc_wakes (h : zKc A C) : zKc A (cF_wakes C) := zKc_fold cB_wk 16 (fun k s _ hs => by
  unfold cB_wk
  repeat' split
  · exact hs
  · exact kc_wake hs k
  · exact hs) h
theorem kc_begin (h : zKc A C) : zKc A (cF_begin C) := by
  have h1 : zKc A (if cF_begins (C 0 9) (C 1 4) = true then (List.range 4).foldl (fun s k => zup s 9 k 0) C else C) := by
    split
    · exact zKc_fold (fun k s => zup s 9 k 0) 4 (fun k s _ hs => zKc_up hs (by decide)) h
    · exact h
  unfold cF_begin
  generalize (if cF_begins (C 0 9) (C 1 4) = true then (List.range 4).foldl (fun s k => zup s 9 k 0) C else C) = C1 at h1 ⊢
  dsimp only
  repeat' split
  · exact zKc_fold (fun k s => zup s (ztk k) 10 0) 16 (fun k s _ hs => zKc_ut hs) h1
  · exact h1
  · exact h1
theorem kc_turns (h : zKc A C) : zKc A (cF_turns C) := zKc_fold cB_turn 3 (fun k s _ hs => by
  unfold cB_turn
  cases cF_at (s 12 k) with
  | none => exact hs
  | some i =>
    have g := kc_ready (zKc_up hs (a := 12) (b := k) (v := -1) (by decide)) i
    dsimp only
    repeat' split
    · exact zKc_ut g
    · exact g
    · exact g
    · exact hs) h
theorem kc_cw (h : zKc A C) : zKc A (cF_cw C) := zKc_fold cB_cw 16 (fun k s _ hs => by
  unfold cB_cw
  have h1 : zKc A (if s (ztk k) 5 = 1 then zup s (ztk k + 4) 1 (s (ztk k + 4) 1 + 1) else s) := by
    split
    · exact zKc_up hs (by unfold ztk; omega)
    · exact hs
  generalize (if s (ztk k) 5 = 1 then zup s (ztk k + 4) 1 (s (ztk k + 4) 1 + 1) else s) = s1 at h1 ⊢
  dsimp only
  split
  · exact zKc_up h1 (by unfold ztk; omega)
  · exact h1) h
theorem km_ready (h : zKm A M) (t : Int32) : zKm A (mF_ready M t) := zKm_up (zKm_up (zKm_up h (by omega)) (by omega)) (by omega)
theorem km_wake (h : zKm A M) (t : Int32) : zKm A (mF_wake M t) := by
  unfold mF_wake
  refine km_ready ?_ t
  have h1 : zKm A (if M 0 2 = 1 then zup M 46 (ix t) (if 0 < M 46 (ix t) - 1 then M 46 (ix t) - 1 else 0) else M) := by
    split
    · exact zKm_up h (by omega)
    · exact h
  generalize (if M 0 2 = 1 then zup M 46 (ix t) (if 0 < M 46 (ix t) - 1 then M 46 (ix t) - 1 else 0) else M) = M1 at h1
  split
  · exact zKm_up h1 (by omega)
  · exact h1
theorem km_leave (h : zKm A M) (t : Int32) : zKm A (mF_leave M t) := zKm_fold (mB_leave t) _ (fun k s _ hs => by
  unfold mB_leave
  split
  · exact zKm_up hs (by omega)
  · exact hs) h
theorem km_free (h : zKm A M) (l : Int32) : zKm A (mF_free M l) := by
  unfold mF_free
  have h1 : zKm A (zup M 101 (ix l) (-1)) := zKm_up h (by omega)
  dsimp only
  generalize zup M 101 (ix l) (-1) = M1 at h1
  split
  · exact h1
  · exact km_wake (zKm_up (zKm_up h1 (by omega)) (by omega)) _
theorem km_signal (h : zKm A M) (e : Int32) : zKm A (mF_signal M e) := by
  unfold mF_signal
  split
  · exact zKm_up h (by omega)
  · exact km_wake (zKm_up h (by omega)) _
theorem km_finish (h : zKm A M) {t : Int32} (ht : vp_in t 16) : zKm A (mF_finish M t) := by
  have := zin_lt ht
  unfold mF_finish
  refine zKm_fold (mB_finish t) 6 (fun k s _ hs => ?_) (zKm_up (zKm_up (zKm_up (km_leave h t) (by omega)) (by omega)) (by omega))
  unfold mB_finish
  split
  · exact km_free hs _
  · exact hs
theorem km_stay (h : zKm A M) (t its place : Int32) : zKm A (mF_stay M t its place) := zKm_up (zKm_up (zKm_up (zKm_up (km_leave h t) (by omega)) (by omega)) (by omega)) (by omega)
theorem km_go (h : zKm A M) (t its n : Int32) : zKm A (mD_go M t its n) := by
  unfold mD_go
  have h1 : zKm A (zup M 42 (ix t) (M 42 (ix t) + 1)) := zKm_up h (by omega)
  dsimp only
  generalize zup M 42 (ix t) (M 42 (ix t) + 1) = M1 at h1
  split
  · exact zKm_up (zKm_up (km_leave h1 t) (by omega)) (by omega)
  · split
    · exact zKm_up h1 (by omega)
    · split
      · split
        · exact km_free h1 n
        · exact h1
      · split
        · exact km_signal h1 n
        · split
          · exact zKm_up h1 (by omega)
          · exact km_ready (km_leave h1 t) t
theorem km_aw (h : zKm A M) (t its n : Int32) : zKm A (mD_aw M t its n) := by
  unfold mD_aw
  split
  · split
    · exact km_stay h t 5 n
    · exact km_go h t its n
  · exact km_go h t its n
theorem km_doStep (h : zKm A M) (t its n : Int32) : zKm A (mF_doStep M t its n) := by
  unfold mF_doStep
  split
  · split
    · exact km_aw h t its n
    · split
      · exact km_aw h t its n
      · exact km_stay h t 4 n
  · exact km_aw h t its n
theorem km_a (h : zKm A M) : zKm A (mT_a M) := by
  unfold mT_a
  split
  · exact zKm_fold (fun i s => zup s 2 i 0) 4 (fun k s _ hs => zKm_up hs (by omega)) h
  · exact h
theorem km_b (h : zKm A M) : zKm A (mT_b M) := by
  unfold mT_b
  repeat' split
  · exact zKm_fold (fun i s => zup s 46 i 0) _ (fun k s _ hs => zKm_up hs (by omega)) h
  all_goals exact h
theorem km_c (h : zKm A M) : zKm A (mT_c M) := zKm_fold mB_wk _ (fun k s _ hs => by
  unfold mB_wk
  repeat' split
  · exact hs
  · exact km_wake hs _
  · exact hs) h
theorem km_expire (h : zKm A M) : zKm A (mF_expire M) := zKm_fold mB_expire _ (fun k s _ hs => by
  unfold mB_expire
  have h1 : zKm A (if s 0 2 = 1 then zup s 46 (ix (s 68 k)) (if s 46 (ix (s 68 k)) + 1 < 3 then s 46 (ix (s 68 k)) + 1 else 3) else s) := by
    split
    · exact zKm_up hs (by omega)
    · exact hs
  have h2 := km_ready (zKm_up h1 (f := 68) (j := k) (v := -1) (by omega)) (s 68 k)
  generalize (if s 0 2 = 0 then s 0 3 else s 0 3 <<< (s 46 (ix (s 68 k)) &&& 31)) = q9
  dsimp only
  split
  · exact hs
  · split
    · exact hs
    · split
      · exact hs
      · exact h2) h
theorem km_cw (h : zKm A M) (hn : ix (M 0 15) ≤ 16) : zKm A (mT_cw M) := zKm_fold mB_cw _ (fun k s hk hs => by
  unfold mB_cw
  exact zKm_up (zKm_up hs (by omega)) (by omega)) h
end ZKF
