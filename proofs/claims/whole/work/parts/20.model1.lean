/-! The reference as functions of its cells: M f j is place j of the cell f of the 103 -/
def mF_is (v lo hi : Int32) : Bool := if v < lo then false else if hi < v then false else true
def mF_isTask (M : zSg) (t : Int32) : Bool := mF_is t 0 (M 0 15 - 1)
def mF_isProc (M : zSg) (t : Int32) : Bool := mF_is t 0 (M 0 6 - 1)
def mF_key (M : zSg) (t : Int32) : Int32 := if M 0 2 = 0 then M 3 (ix t) else if M 0 2 = 1 then M 46 (ix t) else M 47 (ix t)
/-- a bit of a set -/
def zbit (s : Int32) (k : Int32) : Int32 := (s >>> (k &&& 31)) &&& 1
def mB_waiters (M : zSg) (k : Nat) (s : Int32) : Int32 := if M 41 k = 4 then (if M 101 (ix (M 49 k)) = -1 then s else if (s >>> (M 101 (ix (M 49 k)) &&& 31)) &&& 1 = 0 then s else s ||| ((1 : Int32) <<< (nI k &&& 31))) else s
def mF_wstep (M : zSg) (s : Int32) : Int32 := (List.range (ix (M 0 15))).foldl (fun s i => mB_waiters M i s) s
def mF_waiters (M : zSg) (t : Int32) : Int32 := zit (mF_wstep M) 4294967296 ((1 : Int32) <<< (t &&& 31))
theorem mF_wstep_or (M : zSg) (s : Int32) : s ||| mF_wstep M s = mF_wstep M s := by
  have hb : ∀ (k : Nat) (x : Int32), x ||| mB_waiters M k x = mB_waiters M k x := by
    intro k x
    unfold mB_waiters
    repeat' split
    · exact Int32.or_self
    · exact Int32.or_self
    · rw [← Int32.or_assoc, Int32.or_self]
    · exact Int32.or_self
  have key : ∀ (L : List Nat) (x : Int32), s ||| x = x → s ||| L.foldl (fun s i => mB_waiters M i s) x = L.foldl (fun s i => mB_waiters M i s) x := by
    intro L
    induction L with
    | nil => intro x h; exact h
    | cons a L ih =>
      intro x h
      refine ih _ ?_
      show s ||| mB_waiters M a x = mB_waiters M a x
      rw [← hb a x, ← Int32.or_assoc, h]
  exact key _ s Int32.or_self
def mB_lent (M : zSg) (w : Int32) (k : Nat) (s : Int32) : Int32 := if (w >>> (nI k &&& 31)) &&& 1 = 0 then s else (if mF_key M (nI k) < s then mF_key M (nI k) else s)
def mF_lent (M : zSg) (t : Int32) : Int32 := (List.range (ix (M 0 15))).foldl (fun s i => mB_lent M (mF_waiters M t) i s) (mF_key M t)
def mB_least (M : zSg) (b : Int32) (k : Nat) (s : Int32) : Int32 := if nI k = b then s else if M 41 k = 1 then (if s = -1 then M 47 k else if M 47 k < s then M 47 k else s) else if M 41 k = 2 then (if s = -1 then M 47 k else if M 47 k < s then M 47 k else s) else s
def mF_least (M : zSg) (b : Int32) : Int32 := (List.range (ix (M 0 15))).foldl (fun s i => mB_least M b i s) (-1)
def mF_ready (M : zSg) (t : Int32) : zSg := zup (zup (zup M 41 (ix t) 1) 45 (ix t) (M 0 9)) 0 9 (M 0 9 + 1)
def mF_wake (M : zSg) (t : Int32) : zSg :=
  let M1 := if M 0 2 = 1 then zup M 46 (ix t) (if 0 < M 46 (ix t) - 1 then M 46 (ix t) - 1 else 0) else M
  let M2 := if M1 0 2 = 2 then zup M1 47 (ix t) (if M1 47 (ix t) < mF_least M1 t then mF_least M1 t else M1 47 (ix t)) else M1
  mF_ready M2 t
def mB_leave (t : Int32) (p : Nat) (M : zSg) : zSg := if M 68 p = t then zup M 68 p (-1) else M
def mF_leave (M : zSg) (t : Int32) : zSg := (List.range (ix (M 0 6))).foldl (fun s i => mB_leave t i s) M
/-- ranges -/
def zr1 (x : Int32) (a b : Int) : Prop := a ≤ x.toInt ∧ x.toInt ≤ b
/-- what each place may hold -/
def zlo (f j : Nat) : Int := match f with
  | 0 => (match j with | 2 => 0 | 3 => 1 | 4 => 0 | 5 => 1 | 6 => 1 | 15 => 0 | _ => -2147483648)
  | 1 => 0 | 3 => 0 | 4 => 0 | 6 => 0 | 41 => 0 | 46 => 0 | 49 => 0 | 68 => -1 | 101 => -1 | 102 => 0
  | _ => -2147483648
def zhi (f j : Nat) : Int := match f with
  | 0 => (match j with | 2 => 2 | 3 => 10 | 4 => 50 | 5 => 50 | 6 => 3 | 15 => 16 | _ => 2147483647)
  | 1 => 50 | 3 => 7 | 4 => 3 | 6 => 16 | 41 => 6 | 46 => 3 | 49 => 5 | 68 => 15 | 101 => 15 | 102 => 99
  | _ => 2147483647
def zmW (M : zSg) : Prop := ∀ f j, zr1 (M f j) (zlo f j) (zhi f j)
theorem zmW_up {M : zSg} (h : zmW M) {f j : Nat} {v : Int32} (hv : zr1 v (zlo f j) (zhi f j)) : zmW (zup M f j v) := by
  intro f' j'
  unfold zup
  by_cases h1 : f' = f
  · by_cases h2 : j' = j
    · subst h1; subst h2
      rw [if_pos rfl, if_pos rfl]
      exact hv
    · rw [if_pos h1, if_neg h2]
      exact h f' j'
  · rw [if_neg h1]
    exact h f' j'
theorem zr_any (x : Int32) : zr1 x (-2147483648) 2147483647 := by
  have := zrng x
  exact ⟨by omega, by omega⟩
theorem zmW_n {M : zSg} (h : zmW M) : 0 ≤ (M 0 15).toInt := (h 0 15).1
theorem zmW_n16 {M : zSg} (h : zmW M) : ix (M 0 15) ≤ 16 := by
  have h2 := ztoInt (zmW_n h)
  have h3 : (M 0 15).toInt ≤ 16 := (h 0 15).2
  omega
theorem zmW_p {M : zSg} (h : zmW M) : 0 ≤ (M 0 6).toInt := by
  have h1 : 1 ≤ (M 0 6).toInt := (h 0 6).1
  omega
theorem zmW_p3 {M : zSg} (h : zmW M) : ix (M 0 6) ≤ 3 := by
  have h2 := ztoInt (zmW_p h)
  have h3 : (M 0 6).toInt ≤ 3 := (h 0 6).2
  omega
theorem zin_r {x : Int32} {a b : Int} {n : Nat} (h : zr1 x a b) (ha : 0 ≤ a) (hb : b < n) : vp_in x n := zin_i ⟨by have := h.1; omega, by have := h.2; omega⟩
theorem zin_m1 {x : Int32} {b : Int} {n : Nat} (h : zr1 x (-1) b) (hb : b < n) (hn : ¬ x = -1) : vp_in x n := by
  have h1 := h.1
  have h2 := h.2
  have h3 : x.toInt ≠ -1 := fun e => hn (Int32.toInt_inj.mp (by rw [e]; decide))
  exact zin_i ⟨by omega, by omega⟩
theorem zr_in {x : Int32} {n : Nat} {a b : Int} (h : vp_in x n) (ha : a ≤ 0) (hb : (n : Int) ≤ b + 1) : zr1 x a b := by
  have := vp_in_iff.mp h
  exact ⟨by omega, by omega⟩
theorem zmW_at {M : zSg} (h : zmW M) (t : Nat) : vp_in (M 49 t) 6 := zin_r (a := 0) (b := 5) (h 49 t) (by decide) (by decide)
theorem zlv {M : zSg} (h : zmW M) (t : Nat) : zr1 (if 0 < M 46 t - 1 then M 46 t - 1 else 0) 0 3 := by
  have h1 : 0 ≤ (M 46 t).toInt := (h 46 t).1
  have h2 : (M 46 t).toInt ≤ 3 := (h 46 t).2
  have h3 : (M 46 t - 1).toInt = (M 46 t).toInt - 1 := fb_subI (y := 1) (by rw [show (1 : Int32).toInt = 1 from rfl]; omega) (by rw [show (1 : Int32).toInt = 1 from rfl]; omega)
  split
  · rename_i h4
    rw [Int32.lt_iff_toInt_lt, h3] at h4
    rw [show (0 : Int32).toInt = 0 from rfl] at h4
    exact ⟨by rw [h3]; omega, by rw [h3]; omega⟩
  · exact ⟨by decide, by decide⟩

set_option maxRecDepth 100000 in
set_option maxHeartbeats 4000000 in
theorem e_X7_is {l : Launch} {G : zGm} {d n : Nat} {ly : zLy} {τ : zTu} {σ : zSg} {v lo hi : Int32} (htr : l.stackTraces = false) (hd : 0 ≤ d)  : zEv l G d 0 0 (yX7_is, cX7_is, 3, some .boolean) [.int v, .int lo, .int hi] (fun x => n ≤ x) ly τ σ (zPl n ly τ σ (some (.int (zb (mF_is v lo hi))))) := by
  refine zEv_of (ls := [some (.int v), some (.int lo), some (.int hi), none, none, none, none, none, none]) htr (by decide) (Nat.le_of_ble_eq_true rfl) rfl (fun X hO hE hN hRm hL hNm => ?_)
  have hO : zOk G X RX7 cX7_is 3 := hO
  refine zr_iload_0 hO dX7_is_0 ?_
  refine zr_iload_1 hO dX7_is_1 ?_
  refine zr_icmp_lt (tgt := 14) hO dX7_is_2 (by decide) (fun c2 => ?_) (fun c2 => ?_)
  · refine zr_iconst (v := 0) hO dX7_is_14 (by decide) ?_
    exact zr_zreturn hO hE (by decide) dX7_is_15 (zpl_is (by (simp only [mF_is, if_pos c2]) <;> rfl))
  · refine zr_iload_0 hO dX7_is_5 ?_
    refine zr_iload_2 hO dX7_is_6 ?_
    refine zr_icmp_gt (tgt := 14) hO dX7_is_7 (by decide) (fun c7 => ?_) (fun c7 => ?_)
    · refine zr_iconst (v := 0) hO dX7_is_14 (by decide) ?_
      exact zr_zreturn hO hE (by decide) dX7_is_15 (zpl_is (by (simp only [mF_is, if_neg c2, if_pos c7]) <;> rfl))
    · refine zr_iconst (v := 1) hO dX7_is_10 (by decide) ?_
      refine zr_goto (tgt := 15) hO dX7_is_11 (by decide) ?_
      exact zr_zreturn hO hE (by decide) dX7_is_15 (zpl_is (by (simp only [mF_is, if_neg c2, if_neg c7]) <;> rfl))
set_option maxRecDepth 100000 in
set_option maxHeartbeats 4000000 in
theorem e_X7_isTask {l : Launch} {G : zGm} {d n o : Nat} {ly : zLy} {τ : zTu} {σ M : zSg} {t : Int32} (htr : l.stackTraces = false) (hM : zM ly o) (hd : 1 ≤ d)  : zEv l G d 0 0 (yX7_isTask, cX7_isTask, 2, some .boolean) [.ref o, .int t] (fun x => n ≤ x) ly τ (zwr σ o 103 M) (zPl n ly τ (zwr σ o 103 M) (some (.int (zb (mF_isTask M t))))) := by
  refine zEv_of (ls := [some (.ref o), some (.int t), none, none, none, none, none, none, none]) htr (by decide) (Nat.le_of_ble_eq_true rfl) rfl (fun X hO hE hN hRm hL hNm => ?_)
  have hO : zOk G X RX7 cX7_isTask 2 := hO
  refine zr_iload_1 hO dX7_isTask_0 ?_
  refine zr_iconst (v := 0) hO dX7_isTask_1 (by decide) ?_
  refine zr_aload_0 hO dX7_isTask_2 ?_
  refine zg_getfi0 (c := 7) hO (zM_0 hM) (by decide) (by decide) (by decide) zf_X7_110 rfl dX7_isTask_3 ?_
  refine zr_iconst (v := 1) hO dX7_isTask_6 (by decide) ?_
  refine zr_isub hO dX7_isTask_7 ?_
  refine zr_S3 (D := d) hO hRm hL (by omega) (by decide) rfl (e_X7_is (d := d - 1) htr (by omega)) zl_X7_123 zt_X7_is zc_X7_is zn_X7 zd_X7_is (Nat.le_of_ble_eq_true rfl) dX7_isTask_8 (by omega) (by omega) ?_
  exact zr_zreturn hO hE (zb_nar _) dX7_isTask_11 (zpl_i (by (simp only [mF_isTask]) <;> rfl) rfl)
set_option maxRecDepth 100000 in
set_option maxHeartbeats 4000000 in
theorem e_X7_isProcessor {l : Launch} {G : zGm} {d n o : Nat} {ly : zLy} {τ : zTu} {σ M : zSg} {t : Int32} (htr : l.stackTraces = false) (hM : zM ly o) (hd : 1 ≤ d)  : zEv l G d 0 0 (yX7_isProcessor, cX7_isProcessor, 2, some .boolean) [.ref o, .int t] (fun x => n ≤ x) ly τ (zwr σ o 103 M) (zPl n ly τ (zwr σ o 103 M) (some (.int (zb (mF_isProc M t))))) := by
  refine zEv_of (ls := [some (.ref o), some (.int t), none, none, none, none, none, none, none]) htr (by decide) (Nat.le_of_ble_eq_true rfl) rfl (fun X hO hE hN hRm hL hNm => ?_)
  have hO : zOk G X RX7 cX7_isProcessor 2 := hO
  refine zr_iload_1 hO dX7_isProcessor_0 ?_
  refine zr_iconst (v := 0) hO dX7_isProcessor_1 (by decide) ?_
  refine zr_aload_0 hO dX7_isProcessor_2 ?_
  refine zg_getfi0 (c := 7) hO (zM_0 hM) (by decide) (by decide) (by decide) zf_X7_16 rfl dX7_isProcessor_3 ?_
  refine zr_iconst (v := 1) hO dX7_isProcessor_6 (by decide) ?_
  refine zr_isub hO dX7_isProcessor_7 ?_
  refine zr_S3 (D := d) hO hRm hL (by omega) (by decide) rfl (e_X7_is (d := d - 1) htr (by omega)) zl_X7_123 zt_X7_is zc_X7_is zn_X7 zd_X7_is (Nat.le_of_ble_eq_true rfl) dX7_isProcessor_8 (by omega) (by omega) ?_
  exact zr_zreturn hO hE (zb_nar _) dX7_isProcessor_11 (zpl_i (by (simp only [mF_isProc]) <;> rfl) rfl)
set_option maxRecDepth 100000 in
set_option maxHeartbeats 4000000 in
theorem e_X7_keyNow {l : Launch} {G : zGm} {d n o : Nat} {ly : zLy} {τ : zTu} {σ M : zSg} {t : Int32} (htr : l.stackTraces = false) (hM : zM ly o) (hd : 0 ≤ d) (ht : vp_in t 16) : zEv l G d 0 0 (yX7_keyNow, cX7_keyNow, 2, some .int) [.ref o, .int t] (fun x => n ≤ x) ly τ (zwr σ o 103 M) (zPl n ly τ (zwr σ o 103 M) (some (.int (mF_key M t)))) := by
  refine zEv_of (ls := [some (.ref o), some (.int t), none, none, none, none, none, none, none]) htr (by decide) (Nat.le_of_ble_eq_true rfl) rfl (fun X hO hE hN hRm hL hNm => ?_)
  have hO : zOk G X RX7 cX7_keyNow 2 := hO
  refine zr_aload_0 hO dX7_keyNow_0 ?_
  refine zg_getfi0 (c := 7) hO (zM_0 hM) (by decide) (by decide) (by decide) zf_X7_98 rfl dX7_keyNow_1 ?_
  refine zr_if_ne (tgt := 16) hO dX7_keyNow_4 (by decide) (fun c4 => ?_) (fun c4 => ?_)
  · refine zr_aload_0 hO dX7_keyNow_16 ?_
    refine zg_getfi0 (c := 7) hO (zM_0 hM) (by decide) (by decide) (by decide) zf_X7_98 rfl dX7_keyNow_17 ?_
    refine zr_iconst (v := 1) hO dX7_keyNow_20 (by decide) ?_
    refine zr_icmp_ne (tgt := 33) hO dX7_keyNow_21 (by decide) (fun c21 => ?_) (fun c21 => ?_)
    · refine zr_aload_0 hO dX7_keyNow_33 ?_
      refine zr_getfr (c := 7) hO (by decide) (by decide) zf_X7_64 (zM_0 hM) rfl rfl dX7_keyNow_34 ?_
      refine zr_iload_1 hO dX7_keyNow_37 ?_
      refine zg_iald hO (zM_47 hM) (by decide) (by first | assumption) dX7_keyNow_38 ?_
      exact zr_ireturn hO hE dX7_keyNow_39 (zpl_i (by (simp only [mF_key, if_neg c4, if_neg c21]) <;> rfl) rfl)
    · refine zr_aload_0 hO dX7_keyNow_24 ?_
      refine zr_getfr (c := 7) hO (by decide) (by decide) zf_X7_61 (zM_0 hM) rfl rfl dX7_keyNow_25 ?_
      refine zr_iload_1 hO dX7_keyNow_28 ?_
      refine zg_iald hO (zM_46 hM) (by decide) (by first | assumption) dX7_keyNow_29 ?_
      refine zr_goto (tgt := 39) hO dX7_keyNow_30 (by decide) ?_
      exact zr_ireturn hO hE dX7_keyNow_39 (zpl_i (by (simp only [mF_key, if_neg c4, if_pos c21]) <;> rfl) rfl)
  · refine zr_aload_0 hO dX7_keyNow_7 ?_
    refine zr_getfr (c := 7) hO (by decide) (by decide) zf_X7_26 (zM_0 hM) rfl rfl dX7_keyNow_8 ?_
    refine zr_iload_1 hO dX7_keyNow_11 ?_
    refine zg_iald hO (zM_3 hM) (by decide) (by first | assumption) dX7_keyNow_12 ?_
    refine zr_goto (tgt := 39) hO dX7_keyNow_13 (by decide) ?_
    exact zr_ireturn hO hE dX7_keyNow_39 (zpl_i (by (simp only [mF_key, if_pos c4]) <;> rfl) rfl)
set_option maxRecDepth 100000 in
set_option maxHeartbeats 4000000 in
theorem e_X7_ready {l : Launch} {G : zGm} {d n o : Nat} {ly : zLy} {τ : zTu} {σ M : zSg} {t : Int32} (htr : l.stackTraces = false) (hM : zM ly o) (hd : 0 ≤ d) (ht : vp_in t 16) : zEv l G d 0 0 (yX7_ready, cX7_ready, 2, none) [.ref o, .int t] (fun x => n ≤ x) ly τ (zwr σ o 103 M) (zPl n ly τ (zwr σ o 103 (mF_ready M t)) none) := by
  refine zEv_of (ls := [some (.ref o), some (.int t), none, none, none, none, none, none, none]) htr (by decide) (Nat.le_of_ble_eq_true rfl) rfl (fun X hO hE hN hRm hL hNm => ?_)
  have hO : zOk G X RX7 cX7_ready 2 := hO
  refine zr_aload_0 hO dX7_ready_0 ?_
  refine zr_getfr (c := 7) hO (by decide) (by decide) zf_X7_46 (zM_0 hM) rfl rfl dX7_ready_1 ?_
  refine zr_iload_1 hO dX7_ready_4 ?_
  refine zr_iconst (v := 1) hO dX7_ready_5 (by decide) ?_
  refine zg_iast hO (zM_41 hM) (by decide) (by first | assumption) dX7_ready_6 ?_
  refine zr_aload_0 hO dX7_ready_7 ?_
  refine zr_getfr (c := 7) hO (by decide) (by decide) zf_X7_58 (zM_0 hM) rfl rfl dX7_ready_8 ?_
  refine zr_iload_1 hO dX7_ready_11 ?_
  refine zr_aload_0 hO dX7_ready_12 ?_
  refine zg_getfi0 (c := 7) hO (zM_0 hM) (by decide) (by decide) (by decide) zf_X7_104 rfl dX7_ready_13 ?_
  refine zg_iast hO (zM_45 hM) (by decide) (by first | assumption) dX7_ready_16 ?_
  refine zr_aload_0 hO dX7_ready_17 ?_
  refine zr_dup hO dX7_ready_18 rfl ?_
  refine zg_getfi0 (c := 7) hO (zM_0 hM) (by decide) (by decide) (by decide) zf_X7_104 rfl dX7_ready_19 ?_
  refine zr_iconst (v := 1) hO dX7_ready_22 (by decide) ?_
  refine zr_iadd hO dX7_ready_23 ?_
  refine zg_putfi0 (c := 7) hO (zM_0 hM) (by decide) (by decide) (by decide) zf_X7_104 rfl rfl dX7_ready_24 ?_
  exact zr_return hO hE dX7_ready_27 (zpl_v (by (simp only [mF_ready]) <;> rfl))
set_option maxRecDepth 100000 in
set_option maxHeartbeats 4000000 in
theorem e_X7_leastTime {l : Launch} {G : zGm} {d n o : Nat} {ly : zLy} {τ : zTu} {σ M : zSg} {t : Int32} (htr : l.stackTraces = false) (hM : zM ly o) (hd : 0 ≤ d) (hW : zmW M) : zEv l G d 0 0 (yX7_leastTime, cX7_leastTime, 4, some .int) [.ref o, .int t] (fun x => n ≤ x) ly τ (zwr σ o 103 M) (zPl n ly τ (zwr σ o 103 M) (some (.int (mF_least M t)))) := by
  refine zEv_of (ls := [some (.ref o), some (.int t), none, none, none, none, none, none, none]) htr (by decide) (Nat.le_of_ble_eq_true rfl) rfl (fun X hO hE hN hRm hL hNm => ?_)
  have hO : zOk G X RX7 cX7_leastTime 4 := hO
  refine zr_iconst (v := (-1)) hO dX7_leastTime_0 (by decide) ?_
  refine zr_istore_2 hO dX7_leastTime_1 (by decide) rfl ?_
  refine zr_iconst (v := 0) hO dX7_leastTime_2 (by decide) ?_
  refine zr_istore_3 hO dX7_leastTime_3 (by decide) rfl ?_
  refine z_for (P := fun k s => zV G X 4 0 0 (fun x => n ≤ x) ly τ (zwr σ o 103 M) 4 [some (.ref o), some (.int t), some (.int s), some (.int (nI k)), none, none, none, none, none] []) (ix (M 0 15)) (mB_least M t) (fun _ _ => True) (-1) trivial (fun _ _ _ _ => trivial) ?_ ?_
  · intro k s hk hIk ih
    have hk16 : k < 16 := by have := zmW_n16 hW; omega
    refine zr_iload_3 hO dX7_leastTime_4 ?_
    refine zr_aload_0 hO dX7_leastTime_5 ?_
    refine zg_getfi0 (c := 7) hO (zM_0 hM) (by decide) (by decide) (by decide) zf_X7_110 rfl dX7_leastTime_6 ?_
    refine zr_icmp_ge (tgt := 65) hO dX7_leastTime_9 (by decide) (fun c9 => ?_) (fun c9 => ?_)
    · exact absurd (zlt_T (zmW_n hW) hk) c9
    · refine zr_iload_3 hO dX7_leastTime_12 ?_
      refine zr_iload_1 hO dX7_leastTime_13 ?_
      refine zr_icmp_eq (tgt := 59) hO dX7_leastTime_14 (by decide) (fun c14 => ?_) (fun c14 => ?_)
      · refine zr_iinc_3 (v := 1) hO dX7_leastTime_59 (by decide) (by decide) rfl ?_
        refine zr_goto (tgt := 4) hO dX7_leastTime_62 (by decide) ?_
        rw [nI_1]
        simp only [mB_least, if_pos c9, if_pos c14] at ih
        exact ih
      · refine zr_aload_0 hO dX7_leastTime_17 ?_
        refine zr_getfr (c := 7) hO (by decide) (by decide) zf_X7_46 (zM_0 hM) rfl rfl dX7_leastTime_18 ?_
        refine zr_iload_3 hO dX7_leastTime_21 ?_
        refine zg_ialdN hO (zM_41 hM) (by decide) (by omega) (by decide) dX7_leastTime_22 ?_
        refine zr_iconst (v := 1) hO dX7_leastTime_23 (by decide) ?_
        refine zr_icmp_eq (tgt := 37) hO dX7_leastTime_24 (by decide) (fun c24 => ?_) (fun c24 => ?_)
        · refine zr_iload_2 hO dX7_leastTime_37 ?_
          refine zr_iconst (v := (-1)) hO dX7_leastTime_38 (by decide) ?_
          refine zr_icmp_eq (tgt := 52) hO dX7_leastTime_39 (by decide) (fun c39 => ?_) (fun c39 => ?_)
          · refine zr_aload_0 hO dX7_leastTime_52 ?_
            refine zr_getfr (c := 7) hO (by decide) (by decide) zf_X7_64 (zM_0 hM) rfl rfl dX7_leastTime_53 ?_
            refine zr_iload_3 hO dX7_leastTime_56 ?_
            refine zg_ialdN hO (zM_47 hM) (by decide) (by omega) (by decide) dX7_leastTime_57 ?_
            refine zr_istore_2 hO dX7_leastTime_58 (by decide) rfl ?_
            refine zr_iinc_3 (v := 1) hO dX7_leastTime_59 (by decide) (by decide) rfl ?_
            refine zr_goto (tgt := 4) hO dX7_leastTime_62 (by decide) ?_
            rw [nI_1]
            simp only [mB_least, if_pos c9, if_neg c14, if_pos c24, if_pos c39] at ih
            exact ih
          · refine zr_aload_0 hO dX7_leastTime_42 ?_
            refine zr_getfr (c := 7) hO (by decide) (by decide) zf_X7_64 (zM_0 hM) rfl rfl dX7_leastTime_43 ?_
            refine zr_iload_3 hO dX7_leastTime_46 ?_
            refine zg_ialdN hO (zM_47 hM) (by decide) (by omega) (by decide) dX7_leastTime_47 ?_
            refine zr_iload_2 hO dX7_leastTime_48 ?_
            refine zr_icmp_ge (tgt := 59) hO dX7_leastTime_49 (by decide) (fun c49 => ?_) (fun c49 => ?_)
            · refine zr_iinc_3 (v := 1) hO dX7_leastTime_59 (by decide) (by decide) rfl ?_
              refine zr_goto (tgt := 4) hO dX7_leastTime_62 (by decide) ?_
              rw [nI_1]
              simp only [mB_least, if_pos c9, if_neg c14, if_pos c24, if_neg c39, if_neg c49] at ih
              exact ih
            · refine zr_aload_0 hO dX7_leastTime_52 ?_
              refine zr_getfr (c := 7) hO (by decide) (by decide) zf_X7_64 (zM_0 hM) rfl rfl dX7_leastTime_53 ?_
              refine zr_iload_3 hO dX7_leastTime_56 ?_
              refine zg_ialdN hO (zM_47 hM) (by decide) (by omega) (by decide) dX7_leastTime_57 ?_
              refine zr_istore_2 hO dX7_leastTime_58 (by decide) rfl ?_
              refine zr_iinc_3 (v := 1) hO dX7_leastTime_59 (by decide) (by decide) rfl ?_
              refine zr_goto (tgt := 4) hO dX7_leastTime_62 (by decide) ?_
              rw [nI_1]
              simp only [mB_least, if_pos c9, if_neg c14, if_pos c24, if_neg c39, if_pos c49] at ih
              exact ih
        · refine zr_aload_0 hO dX7_leastTime_27 ?_
          refine zr_getfr (c := 7) hO (by decide) (by decide) zf_X7_46 (zM_0 hM) rfl rfl dX7_leastTime_28 ?_
          refine zr_iload_3 hO dX7_leastTime_31 ?_
          refine zg_ialdN hO (zM_41 hM) (by decide) (by omega) (by decide) dX7_leastTime_32 ?_
          refine zr_iconst (v := 2) hO dX7_leastTime_33 (by decide) ?_
          refine zr_icmp_ne (tgt := 59) hO dX7_leastTime_34 (by decide) (fun c34 => ?_) (fun c34 => ?_)
          · refine zr_iinc_3 (v := 1) hO dX7_leastTime_59 (by decide) (by decide) rfl ?_
            refine zr_goto (tgt := 4) hO dX7_leastTime_62 (by decide) ?_
            rw [nI_1]
            simp only [mB_least, if_pos c9, if_neg c14, if_neg c24, if_neg c34] at ih
            exact ih
          · refine zr_iload_2 hO dX7_leastTime_37 ?_
            refine zr_iconst (v := (-1)) hO dX7_leastTime_38 (by decide) ?_
            refine zr_icmp_eq (tgt := 52) hO dX7_leastTime_39 (by decide) (fun c39 => ?_) (fun c39 => ?_)
            · refine zr_aload_0 hO dX7_leastTime_52 ?_
              refine zr_getfr (c := 7) hO (by decide) (by decide) zf_X7_64 (zM_0 hM) rfl rfl dX7_leastTime_53 ?_
              refine zr_iload_3 hO dX7_leastTime_56 ?_
              refine zg_ialdN hO (zM_47 hM) (by decide) (by omega) (by decide) dX7_leastTime_57 ?_
              refine zr_istore_2 hO dX7_leastTime_58 (by decide) rfl ?_
              refine zr_iinc_3 (v := 1) hO dX7_leastTime_59 (by decide) (by decide) rfl ?_
              refine zr_goto (tgt := 4) hO dX7_leastTime_62 (by decide) ?_
              rw [nI_1]
              simp only [mB_least, if_pos c9, if_neg c14, if_neg c24, if_pos c34, if_pos c39] at ih
              exact ih
            · refine zr_aload_0 hO dX7_leastTime_42 ?_
              refine zr_getfr (c := 7) hO (by decide) (by decide) zf_X7_64 (zM_0 hM) rfl rfl dX7_leastTime_43 ?_
              refine zr_iload_3 hO dX7_leastTime_46 ?_
              refine zg_ialdN hO (zM_47 hM) (by decide) (by omega) (by decide) dX7_leastTime_47 ?_
              refine zr_iload_2 hO dX7_leastTime_48 ?_
              refine zr_icmp_ge (tgt := 59) hO dX7_leastTime_49 (by decide) (fun c49 => ?_) (fun c49 => ?_)
              · refine zr_iinc_3 (v := 1) hO dX7_leastTime_59 (by decide) (by decide) rfl ?_
                refine zr_goto (tgt := 4) hO dX7_leastTime_62 (by decide) ?_
                rw [nI_1]
                simp only [mB_least, if_pos c9, if_neg c14, if_neg c24, if_pos c34, if_neg c39, if_neg c49] at ih
                exact ih
              · refine zr_aload_0 hO dX7_leastTime_52 ?_
                refine zr_getfr (c := 7) hO (by decide) (by decide) zf_X7_64 (zM_0 hM) rfl rfl dX7_leastTime_53 ?_
                refine zr_iload_3 hO dX7_leastTime_56 ?_
                refine zg_ialdN hO (zM_47 hM) (by decide) (by omega) (by decide) dX7_leastTime_57 ?_
                refine zr_istore_2 hO dX7_leastTime_58 (by decide) rfl ?_
                refine zr_iinc_3 (v := 1) hO dX7_leastTime_59 (by decide) (by decide) rfl ?_
                refine zr_goto (tgt := 4) hO dX7_leastTime_62 (by decide) ?_
                rw [nI_1]
                simp only [mB_least, if_pos c9, if_neg c14, if_neg c24, if_pos c34, if_neg c39, if_pos c49] at ih
                exact ih
  · intro hIk
    refine zr_iload_3 hO dX7_leastTime_4 ?_
    refine zr_aload_0 hO dX7_leastTime_5 ?_
    refine zg_getfi0 (c := 7) hO (zM_0 hM) (by decide) (by decide) (by decide) zf_X7_110 rfl dX7_leastTime_6 ?_
    refine zr_icmp_ge (tgt := 65) hO dX7_leastTime_9 (by decide) (fun c9 => ?_) (fun c9 => ?_)
    · refine zr_iload_2 hO dX7_leastTime_65 ?_
      exact zr_ireturn hO hE dX7_leastTime_66 (zpl_i (by (simp only [mF_least, if_neg c9]) <;> rfl) rfl)
    · exact absurd c9 (zlt_F (zmW_n hW))
set_option maxRecDepth 100000 in
set_option maxHeartbeats 4000000 in
theorem e_X7_leave {l : Launch} {G : zGm} {d n o : Nat} {ly : zLy} {τ : zTu} {σ M : zSg} {t : Int32} (htr : l.stackTraces = false) (hM : zM ly o) (hd : 0 ≤ d) (hW : zmW M) : zEv l G d 0 0 (yX7_leave, cX7_leave, 3, none) [.ref o, .int t] (fun x => n ≤ x) ly τ (zwr σ o 103 M) (zPl n ly τ (zwr σ o 103 (mF_leave M t)) none) := by
  refine zEv_of (ls := [some (.ref o), some (.int t), none, none, none, none, none, none, none]) htr (by decide) (Nat.le_of_ble_eq_true rfl) rfl (fun X hO hE hN hRm hL hNm => ?_)
  have hO : zOk G X RX7 cX7_leave 3 := hO
  refine zr_iconst (v := 0) hO dX7_leave_0 (by decide) ?_
  refine zr_istore_2 hO dX7_leave_1 (by decide) rfl ?_
  refine z_for (P := fun k s => zV G X 3 0 0 (fun x => n ≤ x) ly τ (zwr σ o 103 s) 2 [some (.ref o), some (.int t), some (.int (nI k)), none, none, none, none, none, none] []) (ix (M 0 6)) (mB_leave t) (fun _ s => s 0 6 = M 0 6) M rfl (fun i s _ h => by unfold mB_leave; split <;> first | exact h | (rw [← h]; rfl)) ?_ ?_
  · intro k s hk hIk ih
    have hk3 : k < 3 := by have := zmW_p3 hW; omega
    refine zr_iload_2 hO dX7_leave_2 ?_
    refine zr_aload_0 hO dX7_leave_3 ?_
    refine zg_getfi0 (c := 7) hO (zM_0 hM) (by decide) (by decide) (by decide) zf_X7_16 rfl dX7_leave_4 ?_
    refine zr_icmp_ge (tgt := 33) hO dX7_leave_7 (by decide) (fun c7 => ?_) (fun c7 => ?_)
    · exact absurd (by rw [hIk]; exact zlt_T (zmW_p hW) hk) c7
    · refine zr_aload_0 hO dX7_leave_10 ?_
      refine zr_getfr (c := 7) hO (by decide) (by decide) zf_X7_79 (zM_0 hM) rfl rfl dX7_leave_11 ?_
      refine zr_iload_2 hO dX7_leave_14 ?_
      refine zg_ialdN hO (zM_68 hM) (by decide) (by omega) (by decide) dX7_leave_15 ?_
      refine zr_iload_1 hO dX7_leave_16 ?_
      refine zr_icmp_ne (tgt := 27) hO dX7_leave_17 (by decide) (fun c17 => ?_) (fun c17 => ?_)
      · refine zr_iinc_2 (v := 1) hO dX7_leave_27 (by decide) (by decide) rfl ?_
        refine zr_goto (tgt := 2) hO dX7_leave_30 (by decide) ?_
        rw [nI_1]
        simp only [mB_leave, if_pos c7, if_neg c17] at ih
        exact ih
      · refine zr_aload_0 hO dX7_leave_20 ?_
        refine zr_getfr (c := 7) hO (by decide) (by decide) zf_X7_79 (zM_0 hM) rfl rfl dX7_leave_21 ?_
        refine zr_iload_2 hO dX7_leave_24 ?_
        refine zr_iconst (v := (-1)) hO dX7_leave_25 (by decide) ?_
        refine zg_iastN hO (zM_68 hM) (by decide) (by omega) (by decide) dX7_leave_26 ?_
        refine zr_iinc_2 (v := 1) hO dX7_leave_27 (by decide) (by decide) rfl ?_
        refine zr_goto (tgt := 2) hO dX7_leave_30 (by decide) ?_
        rw [nI_1]
        simp only [mB_leave, if_pos c7, if_pos c17] at ih
        exact ih
  · intro hIk
    refine zr_iload_2 hO dX7_leave_2 ?_
    refine zr_aload_0 hO dX7_leave_3 ?_
    refine zg_getfi0 (c := 7) hO (zM_0 hM) (by decide) (by decide) (by decide) zf_X7_16 rfl dX7_leave_4 ?_
    refine zr_icmp_ge (tgt := 33) hO dX7_leave_7 (by decide) (fun c7 => ?_) (fun c7 => ?_)
    · exact zr_return hO hE dX7_leave_33 (zpl_v (by (simp only [mF_leave, if_neg c7]) <;> rfl))
    · exact absurd c7 (by rw [hIk]; exact zlt_F (zmW_p hW))
set_option maxRecDepth 100000 in
set_option maxHeartbeats 4000000 in
theorem e_X7_waiters {l : Launch} {G : zGm} {d n o : Nat} {ly : zLy} {τ : zTu} {σ M : zSg} {t : Int32} (htr : l.stackTraces = false) (hM : zM ly o) (hd : 0 ≤ d) (hW : zmW M) (ht : vp_in t 16) : zEv l G d 0 0 (yX7_waiters, cX7_waiters, 5, some .int) [.ref o, .int t] (fun x => n ≤ x) ly τ (zwr σ o 103 M) (zPl n ly τ (zwr σ o 103 M) (some (.int (mF_waiters M t)))) := by
  refine zEv_of (ls := [some (.ref o), some (.int t), none, none, none, none, none, none, none]) htr (by decide) (Nat.le_of_ble_eq_true rfl) rfl (fun X hO hE hN hRm hL hNm => ?_)
  have hO : zOk G X RX7 cX7_waiters 5 := hO
  have hne : ¬ (1 : Int32) <<< (t &&& 31) = 0 := by
    obtain ⟨j, hj, rfl⟩ := vp_in_of ht (by decide)
    exact (show ∀ j, j < 16 → ¬ (1 : Int32) <<< (nI j &&& 31) = 0 by decide +kernel) j hj
  refine zr_iconst (v := 1) hO dX7_waiters_0 (by decide) ?_
  refine zr_iload_1 hO dX7_waiters_1 ?_
  refine zr_ishl hO dX7_waiters_2 ?_
  refine zr_istore_2 hO dX7_waiters_3 (by decide) rfl ?_
  refine zr_iconst (v := 0) hO dX7_waiters_4 (by decide) ?_
  refine zr_istore_3 hO dX7_waiters_5 (by decide) rfl ?_
  have hst : ∀ s b : Int32, ¬ s = b → (fun s b => zV G X 5 0 0 (fun x => n ≤ x) ly τ (zwr σ o 103 M) 6 [some (.ref o), some (.int t), some (.int s), some (.int b), none, none, none, none, none] []) (mF_wstep M s) s → (fun s b => zV G X 5 0 0 (fun x => n ≤ x) ly τ (zwr σ o 103 M) 6 [some (.ref o), some (.int t), some (.int s), some (.int b), none, none, none, none, none] []) s b := by
    intro s b hsb ih
    refine zr_iload_2 hO dX7_waiters_6 ?_
    refine zr_iload_3 hO dX7_waiters_7 ?_
    refine zr_icmp_eq (tgt := 87) hO dX7_waiters_8 (by decide) (fun c8 => ?_) (fun c8 => ?_)
    · exact absurd c8 hsb
    · refine zr_iload_2 hO dX7_waiters_11 ?_
      refine zr_istore_3 hO dX7_waiters_12 (by decide) rfl ?_
      refine zr_iconst (v := 0) hO dX7_waiters_13 (by decide) ?_
      refine zr_istore_4 hO dX7_waiters_14 (by decide) rfl ?_
      refine z_for (P := fun k x => zV G X 5 0 0 (fun x => n ≤ x) ly τ (zwr σ o 103 M) 16 [some (.ref o), some (.int t), some (.int x), some (.int s), some (.int (nI k)), none, none, none, none] []) (ix (M 0 15)) (mB_waiters M) (fun _ _ => True) s trivial (fun _ _ _ _ => trivial) ?_ ?_
      · intro k x hk hIk ih
        have hk16 : k < 16 := by have := zmW_n16 hW; omega
        refine zr_iload_4 hO dX7_waiters_16 ?_
        refine zr_aload_0 hO dX7_waiters_18 ?_
        refine zg_getfi0 (c := 7) hO (zM_0 hM) (by decide) (by decide) (by decide) zf_X7_110 rfl dX7_waiters_19 ?_
        refine zr_icmp_ge (tgt := 84) hO dX7_waiters_22 (by decide) (fun c22 => ?_) (fun c22 => ?_)
        · exact absurd (zlt_T (zmW_n hW) hk) c22
        · refine zr_aload_0 hO dX7_waiters_25 ?_
          refine zr_getfr (c := 7) hO (by decide) (by decide) zf_X7_46 (zM_0 hM) rfl rfl dX7_waiters_26 ?_
          refine zr_iload_4 hO dX7_waiters_29 ?_
          refine zg_ialdN hO (zM_41 hM) (by decide) (by omega) (by decide) dX7_waiters_31 ?_
          refine zr_iconst (v := 4) hO dX7_waiters_32 (by decide) ?_
          refine zr_icmp_ne (tgt := 78) hO dX7_waiters_33 (by decide) (fun c33 => ?_) (fun c33 => ?_)
          · refine zr_iinc_4 (v := 1) hO dX7_waiters_78 (by decide) (by decide) rfl ?_
            refine zr_goto (tgt := 16) hO dX7_waiters_81 (by decide) ?_
            rw [nI_1]
            simp only [mB_waiters, if_pos c22, if_neg c33] at ih
            exact ih
          · refine zr_aload_0 hO dX7_waiters_36 ?_
            refine zr_getfr (c := 7) hO (by decide) (by decide) zf_X7_88 (zM_0 hM) rfl rfl dX7_waiters_37 ?_
            refine zr_aload_0 hO dX7_waiters_40 ?_
            refine zr_getfr (c := 7) hO (by decide) (by decide) zf_X7_70 (zM_0 hM) rfl rfl dX7_waiters_41 ?_
            refine zr_iload_4 hO dX7_waiters_44 ?_
            refine zg_ialdN hO (zM_49 hM) (by decide) (by omega) (by decide) dX7_waiters_46 ?_
            refine zg_iald hO (zM_101 hM) (by decide) (by first | assumption | exact zmW_at hW _) dX7_waiters_47 ?_
            refine zr_iconst (v := (-1)) hO dX7_waiters_48 (by decide) ?_
            refine zr_icmp_eq (tgt := 78) hO dX7_waiters_49 (by decide) (fun c49 => ?_) (fun c49 => ?_)
            · refine zr_iinc_4 (v := 1) hO dX7_waiters_78 (by decide) (by decide) rfl ?_
              refine zr_goto (tgt := 16) hO dX7_waiters_81 (by decide) ?_
              rw [nI_1]
              simp only [mB_waiters, if_pos c22, if_pos c33, if_pos c49] at ih
              exact ih
            · refine zr_iload_2 hO dX7_waiters_52 ?_
              refine zr_aload_0 hO dX7_waiters_53 ?_
              refine zr_getfr (c := 7) hO (by decide) (by decide) zf_X7_88 (zM_0 hM) rfl rfl dX7_waiters_54 ?_
              refine zr_aload_0 hO dX7_waiters_57 ?_
              refine zr_getfr (c := 7) hO (by decide) (by decide) zf_X7_70 (zM_0 hM) rfl rfl dX7_waiters_58 ?_
              refine zr_iload_4 hO dX7_waiters_61 ?_
              refine zg_ialdN hO (zM_49 hM) (by decide) (by omega) (by decide) dX7_waiters_63 ?_
              refine zg_iald hO (zM_101 hM) (by decide) (by first | assumption | exact zmW_at hW _) dX7_waiters_64 ?_
              refine zr_ishr hO dX7_waiters_65 ?_
              refine zr_iconst (v := 1) hO dX7_waiters_66 (by decide) ?_
              refine zr_iand hO dX7_waiters_67 ?_
              refine zr_if_eq (tgt := 78) hO dX7_waiters_68 (by decide) (fun c68 => ?_) (fun c68 => ?_)
              · refine zr_iinc_4 (v := 1) hO dX7_waiters_78 (by decide) (by decide) rfl ?_
                refine zr_goto (tgt := 16) hO dX7_waiters_81 (by decide) ?_
                rw [nI_1]
                simp only [mB_waiters, if_pos c22, if_pos c33, if_neg c49, if_pos c68] at ih
                exact ih
              · refine zr_iload_2 hO dX7_waiters_71 ?_
                refine zr_iconst (v := 1) hO dX7_waiters_72 (by decide) ?_
                refine zr_iload_4 hO dX7_waiters_73 ?_
                refine zr_ishl hO dX7_waiters_75 ?_
                refine zr_ior hO dX7_waiters_76 ?_
                refine zr_istore_2 hO dX7_waiters_77 (by decide) rfl ?_
                refine zr_iinc_4 (v := 1) hO dX7_waiters_78 (by decide) (by decide) rfl ?_
                refine zr_goto (tgt := 16) hO dX7_waiters_81 (by decide) ?_
                rw [nI_1]
                simp only [mB_waiters, if_pos c22, if_pos c33, if_neg c49, if_neg c68] at ih
                exact ih
      · intro hIk
        refine zr_iload_4 hO dX7_waiters_16 ?_
        refine zr_aload_0 hO dX7_waiters_18 ?_
        refine zg_getfi0 (c := 7) hO (zM_0 hM) (by decide) (by decide) (by decide) zf_X7_110 rfl dX7_waiters_19 ?_
        refine zr_icmp_ge (tgt := 84) hO dX7_waiters_22 (by decide) (fun c22 => ?_) (fun c22 => ?_)
        · refine zr_goto (tgt := 6) hO dX7_waiters_84 (by decide) ?_
          refine zV_d4 ?_
          exact ih
        · exact absurd c22 (zlt_F (zmW_n hW))
  have hen : (fun s b => zV G X 5 0 0 (fun x => n ≤ x) ly τ (zwr σ o 103 M) 6 [some (.ref o), some (.int t), some (.int s), some (.int b), none, none, none, none, none] []) (mF_waiters M t) (mF_waiters M t) := by
    refine zr_iload_2 hO dX7_waiters_6 ?_
    refine zr_iload_3 hO dX7_waiters_7 ?_
    refine zr_icmp_eq (tgt := 87) hO dX7_waiters_8 (by decide) (fun c8 => ?_) (fun c8 => ?_)
    · refine zr_iload_2 hO dX7_waiters_87 ?_
      exact zr_ireturn hO hE dX7_waiters_88 (zpl_i rfl rfl)
    · exact absurd rfl c8
  exact hst _ _ hne (z_while (P := fun s b => zV G X 5 0 0 (fun x => n ≤ x) ly τ (zwr σ o 103 M) 6 [some (.ref o), some (.int t), some (.int s), some (.int b), none, none, none, none, none] []) (mF_wstep M) (mF_wstep_or M) _ hst hen)
set_option maxRecDepth 100000 in
set_option maxHeartbeats 4000000 in
theorem e_X7_lentNow {l : Launch} {G : zGm} {d n o : Nat} {ly : zLy} {τ : zTu} {σ M : zSg} {t : Int32} (htr : l.stackTraces = false) (hM : zM ly o) (hd : 1 ≤ d) (hW : zmW M) (ht : vp_in t 16) : zEv l G d 0 0 (yX7_lentNow, cX7_lentNow, 5, some .int) [.ref o, .int t] (fun x => n ≤ x) ly τ (zwr σ o 103 M) (zPl n ly τ (zwr σ o 103 M) (some (.int (mF_lent M t)))) := by
  refine zEv_of (ls := [some (.ref o), some (.int t), none, none, none, none, none, none, none]) htr (by decide) (Nat.le_of_ble_eq_true rfl) rfl (fun X hO hE hN hRm hL hNm => ?_)
  have hO : zOk G X RX7 cX7_lentNow 5 := hO
  refine zr_aload_0 hO dX7_lentNow_0 ?_
  refine zr_iload_1 hO dX7_lentNow_1 ?_
  refine zr_V1 (D := d) hO hRm hL (by omega) (by decide) (c := 7) (by decide) (zM_0 hM) rfl rfl (e_X7_waiters (d := d - 1) htr hM (by omega) hW (by first | assumption)) zl_X7_127 zi_X7_waiters zs_X7_waiters zc_X7_waiters zn_X7 zd_X7_waiters (Nat.le_of_ble_eq_true rfl) dX7_lentNow_2 (by omega) (by omega) ?_
  refine zr_istore_2 hO dX7_lentNow_5 (by decide) rfl ?_
  refine zr_aload_0 hO dX7_lentNow_6 ?_
  refine zr_iload_1 hO dX7_lentNow_7 ?_
  refine zr_V1 (D := d) hO hRm hL (by omega) (by decide) (c := 7) (by decide) (zM_0 hM) rfl rfl (e_X7_keyNow (d := d - 1) htr hM (by omega) (by first | assumption)) zl_X7_131 zi_X7_keyNow zs_X7_keyNow zc_X7_keyNow zn_X7 zd_X7_keyNow (Nat.le_of_ble_eq_true rfl) dX7_lentNow_8 (by omega) (by omega) ?_
  refine zr_istore_3 hO dX7_lentNow_11 (by decide) rfl ?_
  refine zr_iconst (v := 0) hO dX7_lentNow_12 (by decide) ?_
  refine zr_istore_4 hO dX7_lentNow_13 (by decide) rfl ?_
  refine z_for (P := fun k s => zV G X 5 0 0 (fun x => n ≤ x) ly τ (zwr σ o 103 M) 15 [some (.ref o), some (.int t), some (.int (mF_waiters M t)), some (.int s), some (.int (nI k)), none, none, none, none] []) (ix (M 0 15)) (mB_lent M (mF_waiters M t)) (fun _ _ => True) (mF_key M t) trivial (fun _ _ _ _ => trivial) ?_ ?_
  · intro k s hk hIk ih
    have hk16 : k < 16 := by have := zmW_n16 hW; omega
    refine zr_iload_4 hO dX7_lentNow_15 ?_
    refine zr_aload_0 hO dX7_lentNow_17 ?_
    refine zg_getfi0 (c := 7) hO (zM_0 hM) (by decide) (by decide) (by decide) zf_X7_110 rfl dX7_lentNow_18 ?_
    refine zr_icmp_ge (tgt := 50) hO dX7_lentNow_21 (by decide) (fun c21 => ?_) (fun c21 => ?_)
    · exact absurd (zlt_T (zmW_n hW) hk) c21
    · refine zr_iload_2 hO dX7_lentNow_24 ?_
      refine zr_iload_4 hO dX7_lentNow_25 ?_
      refine zr_ishr hO dX7_lentNow_27 ?_
      refine zr_iconst (v := 1) hO dX7_lentNow_28 (by decide) ?_
      refine zr_iand hO dX7_lentNow_29 ?_
      refine zr_if_eq (tgt := 44) hO dX7_lentNow_30 (by decide) (fun c30 => ?_) (fun c30 => ?_)
      · refine zr_iinc_4 (v := 1) hO dX7_lentNow_44 (by decide) (by decide) rfl ?_
        refine zr_goto (tgt := 15) hO dX7_lentNow_47 (by decide) ?_
        rw [nI_1]
        simp only [mB_lent, if_pos c21, if_pos c30] at ih
        exact ih
      · refine zr_iload_3 hO dX7_lentNow_33 ?_
        refine zr_aload_0 hO dX7_lentNow_34 ?_
        refine zr_iload_4 hO dX7_lentNow_35 ?_
        refine zr_V1 (D := d) hO hRm hL (by omega) (by decide) (c := 7) (by decide) (zM_0 hM) rfl rfl (e_X7_keyNow (d := d - 1) htr hM (by omega) (vp_in_nI (by omega) (by decide))) zl_X7_131 zi_X7_keyNow zs_X7_keyNow zc_X7_keyNow zn_X7 zd_X7_keyNow (Nat.le_of_ble_eq_true rfl) dX7_lentNow_37 (by omega) (by omega) ?_
        refine zr_mmin hO (by omega) hRm zl_X7_134 dX7_lentNow_40 (Nat.le_of_ble_eq_true rfl) ?_
        refine zr_istore_3 hO dX7_lentNow_43 (by decide) rfl ?_
        refine zr_iinc_4 (v := 1) hO dX7_lentNow_44 (by decide) (by decide) rfl ?_
        refine zr_goto (tgt := 15) hO dX7_lentNow_47 (by decide) ?_
        rw [nI_1]
        simp only [mB_lent, if_pos c21, if_neg c30] at ih
        exact ih
  · intro hIk
    refine zr_iload_4 hO dX7_lentNow_15 ?_
    refine zr_aload_0 hO dX7_lentNow_17 ?_
    refine zg_getfi0 (c := 7) hO (zM_0 hM) (by decide) (by decide) (by decide) zf_X7_110 rfl dX7_lentNow_18 ?_
    refine zr_icmp_ge (tgt := 50) hO dX7_lentNow_21 (by decide) (fun c21 => ?_) (fun c21 => ?_)
    · refine zr_iload_3 hO dX7_lentNow_50 ?_
      exact zr_ireturn hO hE dX7_lentNow_51 (zpl_i (by (simp only [mF_lent, if_neg c21]) <;> rfl) rfl)
    · exact absurd c21 (zlt_F (zmW_n hW))
set_option maxRecDepth 100000 in
set_option maxHeartbeats 4000000 in
theorem e_X7_wake {l : Launch} {G : zGm} {d n o : Nat} {ly : zLy} {τ : zTu} {σ M : zSg} {t : Int32} (htr : l.stackTraces = false) (hM : zM ly o) (hd : 1 ≤ d) (hW : zmW M) (ht : vp_in t 16) : zEv l G d 0 0 (yX7_wake, cX7_wake, 2, none) [.ref o, .int t] (fun x => n ≤ x) ly τ (zwr σ o 103 M) (zPl n ly τ (zwr σ o 103 (mF_wake M t)) none) := by
  refine zEv_of (ls := [some (.ref o), some (.int t), none, none, none, none, none, none, none]) htr (by decide) (Nat.le_of_ble_eq_true rfl) rfl (fun X hO hE hN hRm hL hNm => ?_)
  have hO : zOk G X RX7 cX7_wake 2 := hO
  refine zr_aload_0 hO dX7_wake_0 ?_
  refine zg_getfi0 (c := 7) hO (zM_0 hM) (by decide) (by decide) (by decide) zf_X7_98 rfl dX7_wake_1 ?_
  refine zr_iconst (v := 1) hO dX7_wake_4 (by decide) ?_
  refine zr_icmp_ne (tgt := 26) hO dX7_wake_5 (by decide) (fun c5 => ?_) (fun c5 => ?_)
  · refine zr_aload_0 hO dX7_wake_26 ?_
    refine zg_getfi0 (c := 7) hO (zM_0 hM) (by decide) (by decide) (by decide) zf_X7_98 rfl dX7_wake_27 ?_
    refine zr_iconst (v := 2) hO dX7_wake_30 (by decide) ?_
    refine zr_icmp_ne (tgt := 54) hO dX7_wake_31 (by decide) (fun c31 => ?_) (fun c31 => ?_)
    · refine zr_aload_0 hO dX7_wake_54 ?_
      refine zr_iload_1 hO dX7_wake_55 ?_
      refine zr_V1 (D := d) hO hRm hL (by omega) (by decide) (c := 7) (by decide) (zM_0 hM) rfl rfl (e_X7_ready (d := d - 1) htr hM (by omega) (by first | assumption)) zl_X7_146 zi_X7_ready zs_X7_ready zc_X7_ready zn_X7 zd_X7_ready (Nat.le_of_ble_eq_true rfl) dX7_wake_56 (by omega) (by omega) ?_
      exact zr_return hO hE dX7_wake_59 (zpl_v (by (simp only [mF_wake, if_neg c5, if_neg c31]) <;> rfl))
    · refine zr_aload_0 hO dX7_wake_34 ?_
      refine zr_getfr (c := 7) hO (by decide) (by decide) zf_X7_64 (zM_0 hM) rfl rfl dX7_wake_35 ?_
      refine zr_iload_1 hO dX7_wake_38 ?_
      refine zr_aload_0 hO dX7_wake_39 ?_
      refine zr_getfr (c := 7) hO (by decide) (by decide) zf_X7_64 (zM_0 hM) rfl rfl dX7_wake_40 ?_
      refine zr_iload_1 hO dX7_wake_43 ?_
      refine zg_iald hO (zM_47 hM) (by decide) (by first | assumption) dX7_wake_44 ?_
      refine zr_aload_0 hO dX7_wake_45 ?_
      refine zr_iload_1 hO dX7_wake_46 ?_
      refine zr_V1 (D := d) hO hRm hL (by omega) (by decide) (c := 7) (by decide) (zM_0 hM) rfl rfl (e_X7_leastTime (d := d - 1) htr hM (by omega) (by first | exact hW | exact zmW_up hW (zlv hW _))) zl_X7_143 zi_X7_leastTime zs_X7_leastTime zc_X7_leastTime zn_X7 zd_X7_leastTime (Nat.le_of_ble_eq_true rfl) dX7_wake_47 (by omega) (by omega) ?_
      refine zr_mmax hO (by omega) hRm zl_X7_140 dX7_wake_50 (Nat.le_of_ble_eq_true rfl) ?_
      refine zg_iast hO (zM_47 hM) (by decide) (by first | assumption) dX7_wake_53 ?_
      refine zr_aload_0 hO dX7_wake_54 ?_
      refine zr_iload_1 hO dX7_wake_55 ?_
      refine zr_V1 (D := d) hO hRm hL (by omega) (by decide) (c := 7) (by decide) (zM_0 hM) rfl rfl (e_X7_ready (d := d - 1) htr hM (by omega) (by first | assumption)) zl_X7_146 zi_X7_ready zs_X7_ready zc_X7_ready zn_X7 zd_X7_ready (Nat.le_of_ble_eq_true rfl) dX7_wake_56 (by omega) (by omega) ?_
      exact zr_return hO hE dX7_wake_59 (zpl_v (by (simp only [mF_wake, if_neg c5, if_pos c31]) <;> rfl))
  · refine zr_aload_0 hO dX7_wake_8 ?_
    refine zr_getfr (c := 7) hO (by decide) (by decide) zf_X7_61 (zM_0 hM) rfl rfl dX7_wake_9 ?_
    refine zr_iload_1 hO dX7_wake_12 ?_
    refine zr_iconst (v := 0) hO dX7_wake_13 (by decide) ?_
    refine zr_aload_0 hO dX7_wake_14 ?_
    refine zr_getfr (c := 7) hO (by decide) (by decide) zf_X7_61 (zM_0 hM) rfl rfl dX7_wake_15 ?_
    refine zr_iload_1 hO dX7_wake_18 ?_
    refine zg_iald hO (zM_46 hM) (by decide) (by first | assumption) dX7_wake_19 ?_
    refine zr_iconst (v := 1) hO dX7_wake_20 (by decide) ?_
    refine zr_isub hO dX7_wake_21 ?_
    refine zr_mmax hO (by omega) hRm zl_X7_140 dX7_wake_22 (Nat.le_of_ble_eq_true rfl) ?_
    refine zg_iast hO (zM_46 hM) (by decide) (by first | assumption) dX7_wake_25 ?_
    refine zr_aload_0 hO dX7_wake_26 ?_
    refine zg_getfi0 (c := 7) hO (zM_0 hM) (by decide) (by decide) (by decide) zf_X7_98 rfl dX7_wake_27 ?_
    refine zr_iconst (v := 2) hO dX7_wake_30 (by decide) ?_
    refine zr_icmp_ne (tgt := 54) hO dX7_wake_31 (by decide) (fun c31 => ?_) (fun c31 => ?_)
    · refine zr_aload_0 hO dX7_wake_54 ?_
      refine zr_iload_1 hO dX7_wake_55 ?_
      refine zr_V1 (D := d) hO hRm hL (by omega) (by decide) (c := 7) (by decide) (zM_0 hM) rfl rfl (e_X7_ready (d := d - 1) htr hM (by omega) (by first | assumption)) zl_X7_146 zi_X7_ready zs_X7_ready zc_X7_ready zn_X7 zd_X7_ready (Nat.le_of_ble_eq_true rfl) dX7_wake_56 (by omega) (by omega) ?_
      exact zr_return hO hE dX7_wake_59 (zpl_v (by (simp only [mF_wake, if_pos c5, if_neg c31]) <;> rfl))
    · refine zr_aload_0 hO dX7_wake_34 ?_
      refine zr_getfr (c := 7) hO (by decide) (by decide) zf_X7_64 (zM_0 hM) rfl rfl dX7_wake_35 ?_
      refine zr_iload_1 hO dX7_wake_38 ?_
      refine zr_aload_0 hO dX7_wake_39 ?_
      refine zr_getfr (c := 7) hO (by decide) (by decide) zf_X7_64 (zM_0 hM) rfl rfl dX7_wake_40 ?_
      refine zr_iload_1 hO dX7_wake_43 ?_
      refine zg_iald hO (zM_47 hM) (by decide) (by first | assumption) dX7_wake_44 ?_
      refine zr_aload_0 hO dX7_wake_45 ?_
      refine zr_iload_1 hO dX7_wake_46 ?_
      refine zr_V1 (D := d) hO hRm hL (by omega) (by decide) (c := 7) (by decide) (zM_0 hM) rfl rfl (e_X7_leastTime (d := d - 1) htr hM (by omega) (by first | exact hW | exact zmW_up hW (zlv hW _))) zl_X7_143 zi_X7_leastTime zs_X7_leastTime zc_X7_leastTime zn_X7 zd_X7_leastTime (Nat.le_of_ble_eq_true rfl) dX7_wake_47 (by omega) (by omega) ?_
      refine zr_mmax hO (by omega) hRm zl_X7_140 dX7_wake_50 (Nat.le_of_ble_eq_true rfl) ?_
      refine zg_iast hO (zM_47 hM) (by decide) (by first | assumption) dX7_wake_53 ?_
      refine zr_aload_0 hO dX7_wake_54 ?_
      refine zr_iload_1 hO dX7_wake_55 ?_
      refine zr_V1 (D := d) hO hRm hL (by omega) (by decide) (c := 7) (by decide) (zM_0 hM) rfl rfl (e_X7_ready (d := d - 1) htr hM (by omega) (by first | assumption)) zl_X7_146 zi_X7_ready zs_X7_ready zc_X7_ready zn_X7 zd_X7_ready (Nat.le_of_ble_eq_true rfl) dX7_wake_56 (by omega) (by omega) ?_
      exact zr_return hO hE dX7_wake_59 (zpl_v (by (simp only [mF_wake, if_pos c5, if_pos c31]) <;> rfl))
