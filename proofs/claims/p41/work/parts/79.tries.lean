/-! The class's face: what is tried on a copy -/
def cF_done (i : Nat) : Nat → Nat → zSg → zSg × Int32
  | 0, k, B => (B, if B (ztk i) 5 = 6 then nI k else -1)
  | j + 1, k, B => if B (ztk i) 5 = 6 then (B, nI k) else cF_done i j (k + 1) (cF_tick B)
def cF_stk : Nat → Nat → zSg → zSg × Int32
  | 0, k, B => (B, if cF_stuck B = 0 then -1 else nI k)
  | j + 1, k, B => if cF_stuck B = 0 then cF_stk j (k + 1) (cF_tick B) else (B, nI k)
def cP_doneWith (A B : zSg) (t r u : Int32) : zRs := match cF_rt A t with
  | none => .inr eIX
  | some i => if r < 0 then .inr eIA else if r < 8 then (match cR_tried u with
    | some E => .inr E
    | none => .inl (cF_done i (ix u) 0 (zup (cC0 A B) (ztk i) 3 r))) else .inr eIA
def cP_idleIn (A B : zSg) (u : Int32) : zRs := match cR_tried u with
  | some E => .inr E
  | none => .inl (cF_ticks (cC0 A B) (ix u), cF_ticks (cC0 A B) (ix u) 3 1 - A 3 1)
def cP_stuckIn (A B : zSg) (u : Int32) : zRs := match cR_tried u with
  | some E => .inr E
  | none => .inl (cF_stk (ix u) 0 (cC0 A B))
def cP_doneIn (A B : zSg) (t u : Int32) : zRs := match cF_rt A t with
  | none => .inr eIX
  | some i => cP_doneWith A B t (A (ztk i) 3) u
theorem tried_0 {u : Int32} (h : cR_tried u = none) : 0 ≤ u.toInt ∧ u.toInt ≤ 60 := by
  unfold cR_tried at h
  by_cases c : u < 1
  · rw [if_pos c] at h; cases h
  · rw [if_neg c] at h
    by_cases c2 : 60 < u
    · rw [if_pos c2] at h; cases h
    · rw [Int32.lt_iff_toInt_lt, show (1 : Int32).toInt = 1 from rfl] at c
      rw [Int32.lt_iff_toInt_lt, show (60 : Int32).toInt = 60 from rfl] at c2
      omega
theorem nI_ix {u : Int32} (h : 0 ≤ u.toInt) : nI (ix u) = u := by
  have h1 := ztoInt h
  have h2 := zrng u
  rw [Int32.toInt_inj.symm, nI_toInt (by omega)]
  omega
theorem rt_at {A : zSg} {t : Int32} {i : Nat} (h : cF_rt A t = some i) : cF_at t = some i := by
  unfold cF_rt at h
  cases hc : cF_at t with
  | none => rw [hc] at h; cases h
  | some j =>
    rw [hc] at h
    dsimp only at h
    split at h
    · exact h
    · cases h

set_option maxRecDepth 100000 in
set_option maxHeartbeats 400000 in
theorem e_X6_doneWith {l : Launch} {G : zGm} {d n x o q : Nat} {ly : zLy} {τ : zTu} {σ A B : zSg} {t r u : Int32}  (htr : l.stackTraces = false) (hX : ly x = (6 + 5, 2, zcr6 o q)) (hA : zC ly o) (hB : zC ly q) (hq : o + 95 ≤ q) (hd : 8 ≤ d) : zEv l G d 1 6 (yX6_doneWith, cX6_doneWith, 6, some .int) [.ref x, .int t, .int r, .int u] (fun x => n ≤ x) ly τ (zwr (zwr σ o 95 A) q 95 B) (zPx n ly τ (zwr σ o 95 A) q B (cP_doneWith A B t r u)) := by
  refine zEv_of (ls := [some (.ref x), some (.int t), some (.int r), some (.int u), none, none, none, none, none]) htr (by decide) (Nat.le_of_ble_eq_true rfl) rfl (fun X hO hE hN hRm hL hNm => ?_)
  have hO : zOk G X RX6 cX6_doneWith 6 := hO
  rw [zwr_comm σ A B (Or.inl hq)]
  refine zr_aload_0 hO dX6_doneWith_0 ?_
  refine zr_iload_1 hO dX6_doneWith_1 ?_
  rcases hq2 : cF_rt A t with _ | i
  · refine zr_VT1 (D := d) hO hRm hL (by omega) (by decide) (c := 6) (by decide) hX rfl rfl (e_X6_requireTask_x (d := d - 1) htr hX hA (by omega) hq2) zl_X6_88 zi_X6_requireTask zs_X6_requireTask zc_X6_requireTask zn_X6 zd_X6_requireTask (Nat.le_of_ble_eq_true rfl) dX6_doneWith_2 (by omega) (by omega) ?_
    rw [← zwr_comm σ A B (Or.inl hq)]
    exact zX_out hO hE hN (fun z9 hz9 => zPx_x hz9 (by simp only [cP_doneWith, hq2]))
  have hi := cF_rt_lt hq2
  refine zr_V1 (D := d) hO hRm hL (by omega) (by decide) (c := 6) (by decide) hX rfl rfl (e_X6_requireTask_ok (d := d - 1) htr hX hA (by omega) hq2) zl_X6_88 zi_X6_requireTask zs_X6_requireTask zc_X6_requireTask zn_X6 zd_X6_requireTask (Nat.le_of_ble_eq_true rfl) dX6_doneWith_2 (by omega) (by omega) ?_
  rw [← zwr_comm σ A B (Or.inl hq)]
  refine zV_pc (pc' := 5) rfl ?_
  show zV G X 6 1 6 (fun x => n ≤ x) ly τ (zwr (zwr σ o 95 A) q 95 B) 5 [some (.ref x), some (.int t), some (.int r), some (.int u), none, none, none, none, none] [.ref (o + ztk i)]
  refine zr_pop hO dX6_doneWith_5 rfl ?_
  refine zr_iload_2 hO dX6_doneWith_6 ?_
  refine zr_if_lt (tgt := 20) hO dX6_doneWith_7 (by decide) (fun c7 => ?_) (fun c7 => ?_)
  · skip
    refine zr_iconst (v := 0) hO dX6_doneWith_20 (by decide) ?_
    refine zr_ST1 (D := d) hO hRm hL (by omega) (by decide) rfl (e_X6_requireArgument0 (d := d - 1) htr (by omega)) zl_X6_19 zt_X6_requireArgument zc_X6_requireArgument zn_X6 zd_X6_requireArgument (Nat.le_of_ble_eq_true rfl) dX6_doneWith_21 (by omega) (by omega) ?_
    exact zX_out hO hE hN (fun z9 hz9 => zPx_x hz9 (by simp only [cP_doneWith, hq2, if_pos c7]))
  refine zr_iload_2 hO dX6_doneWith_10 ?_
  refine zr_bipush (v := 8) hO dX6_doneWith_11 (by decide) ?_
  refine zr_icmp_ge (tgt := 20) hO dX6_doneWith_13 (by decide) (fun c13 => ?_) (fun c13 => ?_)
  · skip
    refine zr_iconst (v := 0) hO dX6_doneWith_20 (by decide) ?_
    refine zr_ST1 (D := d) hO hRm hL (by omega) (by decide) rfl (e_X6_requireArgument0 (d := d - 1) htr (by omega)) zl_X6_19 zt_X6_requireArgument zc_X6_requireArgument zn_X6 zd_X6_requireArgument (Nat.le_of_ble_eq_true rfl) dX6_doneWith_21 (by omega) (by omega) ?_
    exact zX_out hO hE hN (fun z9 hz9 => zPx_x hz9 (by simp only [cP_doneWith, hq2, if_neg c7, if_neg c13]))
  refine zr_iconst (v := 1) hO dX6_doneWith_16 (by decide) ?_
  refine zr_goto (tgt := 21) hO dX6_doneWith_17 (by decide) ?_
  refine zr_S1 (D := d) hO hRm hL (by omega) (by decide) rfl (e_X6_requireArgument1 (d := d - 1) htr (by omega)) zl_X6_19 zt_X6_requireArgument zc_X6_requireArgument zn_X6 zd_X6_requireArgument (Nat.le_of_ble_eq_true rfl) dX6_doneWith_21 (by omega) (by omega) ?_
  refine zr_iload_3 hO dX6_doneWith_24 ?_
  rcases hq3 : cR_tried u with _ | E
  rotate_left
  · refine zr_ST1 (D := d) hO hRm hL (by omega) (by decide) rfl (e_X6_requireTicksTried_x (d := d - 1) htr (by omega) hq3) zl_X6_211 zt_X6_requireTicksTried zc_X6_requireTicksTried zn_X6 zd_X6_requireTicksTried (Nat.le_of_ble_eq_true rfl) dX6_doneWith_25 (by omega) (by omega) ?_
    exact zX_out hO hE hN (fun z9 hz9 => zPx_x hz9 (by simp only [cP_doneWith, hq2, if_neg c7, if_pos c13, hq3]))
  refine zr_S1 (D := d) hO hRm hL (by omega) (by decide) rfl (e_X6_requireTicksTried_ok (d := d - 1) htr (by omega) hq3) zl_X6_211 zt_X6_requireTicksTried zc_X6_requireTicksTried zn_X6 zd_X6_requireTicksTried (Nat.le_of_ble_eq_true rfl) dX6_doneWith_25 (by omega) (by omega) ?_
  have hu := tried_0 hq3
  refine zr_aload_0 hO dX6_doneWith_28 ?_
  refine zr_getfr (c := 6) hO (by decide) (by decide) zf_X6_16 hX rfl rfl dX6_doneWith_29 ?_
  refine zr_aload_0 hO dX6_doneWith_32 ?_
  refine zr_getfr (c := 6) hO (by decide) (by decide) zf_X6_10 hX rfl rfl dX6_doneWith_33 ?_
  refine zr_V1 (D := d) hO hRm hL (by omega) (by decide) (c := 0) (by decide) (zC_0 hB) rfl rfl (e_X0_copyFrom (d := d - 1) htr hq hA hB (by omega)) zl_X6_214 zi_X0_copyFrom zs_X0_copyFrom zc_X0_copyFrom zn_X0 zd_X0_copyFrom (Nat.le_of_ble_eq_true rfl) dX6_doneWith_36 (by omega) (by omega) ?_
  refine zr_aload_0 hO dX6_doneWith_39 ?_
  refine zr_getfr (c := 6) hO (by decide) (by decide) zf_X6_16 hX rfl rfl dX6_doneWith_40 ?_
  refine zr_iload_1 hO dX6_doneWith_43 ?_
  refine zr_V1 (D := d) hO hRm hL (by omega) (by decide) (c := 0) (by decide) (zC_0 hB) rfl rfl (e_X0_taskAt (d := d - 1) htr hB (by omega)) zl_X6_62 zi_X0_taskAt zs_X0_taskAt zc_X0_taskAt zn_X0 zd_X0_taskAt (Nat.le_of_ble_eq_true rfl) dX6_doneWith_44 (by omega) (by omega) ?_
  rw [rt_at hq2]
  refine zV_pc (pc' := 47) rfl ?_
  show zV G X 6 1 6 (fun x => n ≤ x) ly τ (zwr (zwr σ o 95 A) q 95 (cC0 A B)) 47 [some (.ref x), some (.int t), some (.int r), some (.int u), none, none, none, none, none] [.ref (q + ztk i)]
  refine zr_astore_4 hO dX6_doneWith_47 (by decide) rfl ?_
  refine zr_aload_4 hO dX6_doneWith_49 ?_
  refine zr_ifnonnull (tgt := 56) hO dX6_doneWith_51 (by decide) ?_
  refine zr_aload_4 hO dX6_doneWith_56 ?_
  refine zr_iload_2 hO dX6_doneWith_58 ?_
  refine zg_putfi (c := 4) hO (zC_t hB hi) (by have := hi; unfold ztk; omega) (by decide) (by decide) zf_X6_71 rfl rfl dX6_doneWith_59 ?_
  refine zr_iconst (v := 0) hO dX6_doneWith_62 (by decide) ?_
  refine zr_istore_5 hO dX6_doneWith_63 (by decide) rfl ?_
  refine zV_pc (pc' := 65) rfl ?_
  have key : ∀ (j k : Nat) (C : zSg), k + j = ix u → cF_done i j k C = cF_done i (ix u) 0 (zup (cC0 A B) (ztk i) 3 r) → zV G X 6 1 6 (fun x => n ≤ x) ly τ (zwr (zwr σ o 95 A) q 95 C) 65 [some (.ref x), some (.int t), some (.int r), some (.int u), some (.ref (q + ztk i)), some (.int (nI k)), none, none, none] [] := by
    intro j
    induction j with
    | zero =>
      intro k C hk he
      refine zr_iload_5 hO dX6_doneWith_65 ?_
      refine zr_iload_3 hO dX6_doneWith_67 ?_
      refine zr_icmp_ge (tgt := 97) hO dX6_doneWith_68 (by decide) (fun c => ?_) (fun c => absurd c (zjx0 (t := u) (k := k) hu.1 (by omega)))
      refine zr_aload_4 hO dX6_doneWith_97 ?_
      refine zg_getfi (c := 4) hO (zC_t hB hi) (by have := hi; unfold ztk; omega) (by decide) (by decide) zf_X6_95 rfl dX6_doneWith_99 ?_
      refine zr_bipush (v := 6) hO dX6_doneWith_102 (by decide) ?_
      refine zr_icmp_ne (tgt := 111) hO dX6_doneWith_104 (by decide) (fun c2 => ?_) (fun c2 => ?_)
      · refine zr_iconst (v := -1) hO dX6_doneWith_111 (by decide) ?_
        exact zr_ireturn hO hE dX6_doneWith_112 (fun z9 hz9 => zPx_i hz9 (by simp only [cP_doneWith, hq2, if_neg c7, if_pos c13, hq3]; rw [← he, cF_done, if_neg c2]))
      refine zr_iload_3 hO dX6_doneWith_107 ?_
      refine zr_goto (tgt := 112) hO dX6_doneWith_108 (by decide) ?_
      exact zr_ireturn hO hE dX6_doneWith_112 (fun z9 hz9 => zPx_i hz9 (by simp only [cP_doneWith, hq2, if_neg c7, if_pos c13, hq3]; rw [← he, cF_done, if_pos c2, show k = ix u by omega, nI_ix hu.1]))
    | succ j ih =>
      intro k C hk he
      refine zr_iload_5 hO dX6_doneWith_65 ?_
      refine zr_iload_3 hO dX6_doneWith_67 ?_
      refine zr_icmp_ge (tgt := 97) hO dX6_doneWith_68 (by decide) (fun c => absurd (zjx (t := u) hu.1 hk (by omega)) c) (fun c => ?_)
      refine zr_aload_4 hO dX6_doneWith_71 ?_
      refine zg_getfi (c := 4) hO (zC_t hB hi) (by have := hi; unfold ztk; omega) (by decide) (by decide) zf_X6_95 rfl dX6_doneWith_73 ?_
      refine zr_bipush (v := 6) hO dX6_doneWith_76 (by decide) ?_
      refine zr_icmp_ne (tgt := 84) hO dX6_doneWith_78 (by decide) (fun c2 => ?_) (fun c2 => ?_)
      · skip
        refine zr_aload_0 hO dX6_doneWith_84 ?_
        refine zr_getfr (c := 6) hO (by decide) (by decide) zf_X6_16 hX rfl rfl dX6_doneWith_85 ?_
        refine zr_V0 (D := d) hO hRm hL (by omega) (by decide) (c := 0) (by decide) (zC_0 hB) rfl rfl (e_X0_passTick (d := d - 1) htr hB (by omega)) zl_X6_133 zi_X0_passTick zs_X0_passTick zc_X0_passTick zn_X0 zd_X0_passTick (Nat.le_of_ble_eq_true rfl) dX6_doneWith_88 (by omega) (by omega) ?_
        refine zr_iinc_5 (v := 1) hO dX6_doneWith_91 (by decide) (by decide) rfl ?_
        refine zr_goto (tgt := 65) hO dX6_doneWith_94 (by decide) ?_
        rw [nI_1]
        exact ih (k + 1) (cF_tick C) (by omega) (by rw [← he, cF_done, if_neg c2])
      refine zr_iload_5 hO dX6_doneWith_81 ?_
      exact zr_ireturn hO hE dX6_doneWith_83 (fun z9 hz9 => zPx_i hz9 (by simp only [cP_doneWith, hq2, if_neg c7, if_pos c13, hq3]; rw [← he, cF_done, if_pos c2]))
  exact key (ix u) 0 _ (by omega) rfl
set_option maxRecDepth 100000 in
set_option maxHeartbeats 400000 in
theorem e_X6_idleIn {l : Launch} {G : zGm} {d n x o q : Nat} {ly : zLy} {τ : zTu} {σ A B : zSg} {u : Int32}  (htr : l.stackTraces = false) (hX : ly x = (6 + 5, 2, zcr6 o q)) (hA : zC ly o) (hB : zC ly q) (hq : o + 95 ≤ q) (hd : 8 ≤ d) : zEv l G d 1 6 (yX6_idleIn, cX6_idleIn, 3, some .int) [.ref x, .int u] (fun x => n ≤ x) ly τ (zwr (zwr σ o 95 A) q 95 B) (zPx n ly τ (zwr σ o 95 A) q B (cP_idleIn A B u)) := by
  refine zEv_of (ls := [some (.ref x), some (.int u), none, none, none, none, none, none, none]) htr (by decide) (Nat.le_of_ble_eq_true rfl) rfl (fun X hO hE hN hRm hL hNm => ?_)
  have hO : zOk G X RX6 cX6_idleIn 3 := hO
  refine zr_iload_1 hO dX6_idleIn_0 ?_
  rcases hq3 : cR_tried u with _ | E
  rotate_left
  · refine zr_ST1 (D := d) hO hRm hL (by omega) (by decide) rfl (e_X6_requireTicksTried_x (d := d - 1) htr (by omega) hq3) zl_X6_211 zt_X6_requireTicksTried zc_X6_requireTicksTried zn_X6 zd_X6_requireTicksTried (Nat.le_of_ble_eq_true rfl) dX6_idleIn_1 (by omega) (by omega) ?_
    exact zX_out hO hE hN (fun z9 hz9 => zPx_x hz9 (by simp only [cP_idleIn, hq3]))
  refine zr_S1 (D := d) hO hRm hL (by omega) (by decide) rfl (e_X6_requireTicksTried_ok (d := d - 1) htr (by omega) hq3) zl_X6_211 zt_X6_requireTicksTried zc_X6_requireTicksTried zn_X6 zd_X6_requireTicksTried (Nat.le_of_ble_eq_true rfl) dX6_idleIn_1 (by omega) (by omega) ?_
  have hu := tried_0 hq3
  refine zr_aload_0 hO dX6_idleIn_4 ?_
  refine zr_getfr (c := 6) hO (by decide) (by decide) zf_X6_16 hX rfl rfl dX6_idleIn_5 ?_
  refine zr_aload_0 hO dX6_idleIn_8 ?_
  refine zr_getfr (c := 6) hO (by decide) (by decide) zf_X6_10 hX rfl rfl dX6_idleIn_9 ?_
  refine zr_V1 (D := d) hO hRm hL (by omega) (by decide) (c := 0) (by decide) (zC_0 hB) rfl rfl (e_X0_copyFrom (d := d - 1) htr hq hA hB (by omega)) zl_X6_214 zi_X0_copyFrom zs_X0_copyFrom zc_X0_copyFrom zn_X0 zd_X0_copyFrom (Nat.le_of_ble_eq_true rfl) dX6_idleIn_12 (by omega) (by omega) ?_
  refine zr_iconst (v := 0) hO dX6_idleIn_15 (by decide) ?_
  refine zr_istore_2 hO dX6_idleIn_16 (by decide) rfl ?_
  refine zV_pc (pc' := 17) rfl ?_
  rw [← nI_0]
  refine z_for (P := fun k s => zV G X 3 1 6 (fun x => n ≤ x) ly τ (zwr (zwr σ o 95 A) q 95 s) 17 [some (.ref x), some (.int u), some (.int (nI k)), none, none, none, none, none, none] []) (ix u) (fun _ s => cF_tick s) (fun _ _ => True) (cC0 A B) trivial (fun _ _ _ _ => trivial) ?_ ?_
  · intro k s hk hIk ih
    refine zr_iload_2 hO dX6_idleIn_17 ?_
    refine zr_iload_1 hO dX6_idleIn_18 ?_
    refine zr_icmp_ge (tgt := 35) hO dX6_idleIn_19 (by decide) (fun c => absurd (zlt_T hu.1 hk) c) (fun c => ?_)
    refine zr_aload_0 hO dX6_idleIn_22 ?_
    refine zr_getfr (c := 6) hO (by decide) (by decide) zf_X6_16 hX rfl rfl dX6_idleIn_23 ?_
    refine zr_V0 (D := d) hO hRm hL (by omega) (by decide) (c := 0) (by decide) (zC_0 hB) rfl rfl (e_X0_passTick (d := d - 1) htr hB (by omega)) zl_X6_133 zi_X0_passTick zs_X0_passTick zc_X0_passTick zn_X0 zd_X0_passTick (Nat.le_of_ble_eq_true rfl) dX6_idleIn_26 (by omega) (by omega) ?_
    refine zr_iinc_2 (v := 1) hO dX6_idleIn_29 (by decide) (by decide) rfl ?_
    refine zr_goto (tgt := 17) hO dX6_idleIn_32 (by decide) ?_
    rw [nI_1]
    exact ih
  · intro hIk
    refine zr_iload_2 hO dX6_idleIn_17 ?_
    refine zr_iload_1 hO dX6_idleIn_18 ?_
    refine zr_icmp_ge (tgt := 35) hO dX6_idleIn_19 (by decide) (fun c => ?_) (fun c => absurd c (zlt_F hu.1))
    refine zr_aload_0 hO dX6_idleIn_35 ?_
    refine zr_getfr (c := 6) hO (by decide) (by decide) zf_X6_16 hX rfl rfl dX6_idleIn_36 ?_
    refine zr_getfr (c := 0) hO (by decide) (by decide) zf_X6_172 (zC_0 hB) rfl rfl dX6_idleIn_39 ?_
    refine zg_getfi (c := 5) hO (zC_3 hB) (by decide) (by decide) (by decide) zf_X6_185 rfl dX6_idleIn_42 ?_
    refine zr_aload_0 hO dX6_idleIn_45 ?_
    refine zr_getfr (c := 6) hO (by decide) (by decide) zf_X6_10 hX rfl rfl dX6_idleIn_46 ?_
    refine zr_getfr (c := 0) hO (by decide) (by decide) zf_X6_172 (zC_0 hA) rfl rfl dX6_idleIn_49 ?_
    refine zV_pc (pc' := 52) rfl ?_
    refine zy_getfi (c := 5) hO hq (zC_3 hA) (by decide) (by decide) (by decide) zf_X6_185 rfl dX6_idleIn_52 ?_
    refine zr_isub hO dX6_idleIn_55 ?_
    exact zr_ireturn hO hE dX6_idleIn_56 (fun z9 hz9 => zPx_i hz9 (by simp only [cP_idleIn, hq3]; rfl))
set_option maxRecDepth 100000 in
set_option maxHeartbeats 400000 in
theorem e_X6_stuckIn {l : Launch} {G : zGm} {d n x o q : Nat} {ly : zLy} {τ : zTu} {σ A B : zSg} {u : Int32}  (htr : l.stackTraces = false) (hX : ly x = (6 + 5, 2, zcr6 o q)) (hA : zC ly o) (hB : zC ly q) (hq : o + 95 ≤ q) (hd : 8 ≤ d) : zEv l G d 1 6 (yX6_stuckIn, cX6_stuckIn, 3, some .int) [.ref x, .int u] (fun x => n ≤ x) ly τ (zwr (zwr σ o 95 A) q 95 B) (zPx n ly τ (zwr σ o 95 A) q B (cP_stuckIn A B u)) := by
  refine zEv_of (ls := [some (.ref x), some (.int u), none, none, none, none, none, none, none]) htr (by decide) (Nat.le_of_ble_eq_true rfl) rfl (fun X hO hE hN hRm hL hNm => ?_)
  have hO : zOk G X RX6 cX6_stuckIn 3 := hO
  refine zr_iload_1 hO dX6_stuckIn_0 ?_
  rcases hq3 : cR_tried u with _ | E
  rotate_left
  · refine zr_ST1 (D := d) hO hRm hL (by omega) (by decide) rfl (e_X6_requireTicksTried_x (d := d - 1) htr (by omega) hq3) zl_X6_211 zt_X6_requireTicksTried zc_X6_requireTicksTried zn_X6 zd_X6_requireTicksTried (Nat.le_of_ble_eq_true rfl) dX6_stuckIn_1 (by omega) (by omega) ?_
    exact zX_out hO hE hN (fun z9 hz9 => zPx_x hz9 (by simp only [cP_stuckIn, hq3]))
  refine zr_S1 (D := d) hO hRm hL (by omega) (by decide) rfl (e_X6_requireTicksTried_ok (d := d - 1) htr (by omega) hq3) zl_X6_211 zt_X6_requireTicksTried zc_X6_requireTicksTried zn_X6 zd_X6_requireTicksTried (Nat.le_of_ble_eq_true rfl) dX6_stuckIn_1 (by omega) (by omega) ?_
  have hu := tried_0 hq3
  refine zr_aload_0 hO dX6_stuckIn_4 ?_
  refine zr_getfr (c := 6) hO (by decide) (by decide) zf_X6_16 hX rfl rfl dX6_stuckIn_5 ?_
  refine zr_aload_0 hO dX6_stuckIn_8 ?_
  refine zr_getfr (c := 6) hO (by decide) (by decide) zf_X6_10 hX rfl rfl dX6_stuckIn_9 ?_
  refine zr_V1 (D := d) hO hRm hL (by omega) (by decide) (c := 0) (by decide) (zC_0 hB) rfl rfl (e_X0_copyFrom (d := d - 1) htr hq hA hB (by omega)) zl_X6_214 zi_X0_copyFrom zs_X0_copyFrom zc_X0_copyFrom zn_X0 zd_X0_copyFrom (Nat.le_of_ble_eq_true rfl) dX6_stuckIn_12 (by omega) (by omega) ?_
  refine zr_iconst (v := 0) hO dX6_stuckIn_15 (by decide) ?_
  refine zr_istore_2 hO dX6_stuckIn_16 (by decide) rfl ?_
  refine zV_pc (pc' := 17) rfl ?_
  have key : ∀ (j k : Nat) (C : zSg), k + j = ix u → cF_stk j k C = cF_stk (ix u) 0 (cC0 A B) → zV G X 3 1 6 (fun x => n ≤ x) ly τ (zwr (zwr σ o 95 A) q 95 C) 17 [some (.ref x), some (.int u), some (.int (nI k)), none, none, none, none, none, none] [] := by
    intro j
    induction j with
    | zero =>
      intro k C hk he
      refine zr_iload_2 hO dX6_stuckIn_17 ?_
      refine zr_iload_1 hO dX6_stuckIn_18 ?_
      refine zr_icmp_ge (tgt := 47) hO dX6_stuckIn_19 (by decide) (fun c => ?_) (fun c => absurd c (zjx0 (t := u) (k := k) hu.1 (by omega)))
      refine zr_aload_0 hO dX6_stuckIn_47 ?_
      refine zr_getfr (c := 6) hO (by decide) (by decide) zf_X6_16 hX rfl rfl dX6_stuckIn_48 ?_
      refine zr_V0 (D := d) hO hRm hL (by omega) (by decide) (c := 0) (by decide) (zC_0 hB) rfl rfl (e_X0_stuckTasks (d := d - 1) htr hB (by omega)) zl_X6_200 zi_X0_stuckTasks zs_X0_stuckTasks zc_X0_stuckTasks zn_X0 zd_X0_stuckTasks (Nat.le_of_ble_eq_true rfl) dX6_stuckIn_51 (by omega) (by omega) ?_
      refine zr_if_eq (tgt := 61) hO dX6_stuckIn_54 (by decide) (fun c2 => ?_) (fun c2 => ?_)
      · refine zr_iconst (v := -1) hO dX6_stuckIn_61 (by decide) ?_
        exact zr_ireturn hO hE dX6_stuckIn_62 (fun z9 hz9 => zPx_i hz9 (by simp only [cP_stuckIn, hq3]; rw [← he, cF_stk, if_pos c2]))
      refine zr_iload_1 hO dX6_stuckIn_57 ?_
      refine zr_goto (tgt := 62) hO dX6_stuckIn_58 (by decide) ?_
      exact zr_ireturn hO hE dX6_stuckIn_62 (fun z9 hz9 => zPx_i hz9 (by simp only [cP_stuckIn, hq3]; rw [← he, cF_stk, if_neg c2, show k = ix u by omega, nI_ix hu.1]))
    | succ j ih =>
      intro k C hk he
      refine zr_iload_2 hO dX6_stuckIn_17 ?_
      refine zr_iload_1 hO dX6_stuckIn_18 ?_
      refine zr_icmp_ge (tgt := 47) hO dX6_stuckIn_19 (by decide) (fun c => absurd (zjx (t := u) hu.1 hk (by omega)) c) (fun c => ?_)
      refine zr_aload_0 hO dX6_stuckIn_22 ?_
      refine zr_getfr (c := 6) hO (by decide) (by decide) zf_X6_16 hX rfl rfl dX6_stuckIn_23 ?_
      refine zr_V0 (D := d) hO hRm hL (by omega) (by decide) (c := 0) (by decide) (zC_0 hB) rfl rfl (e_X0_stuckTasks (d := d - 1) htr hB (by omega)) zl_X6_200 zi_X0_stuckTasks zs_X0_stuckTasks zc_X0_stuckTasks zn_X0 zd_X0_stuckTasks (Nat.le_of_ble_eq_true rfl) dX6_stuckIn_26 (by omega) (by omega) ?_
      refine zr_if_eq (tgt := 34) hO dX6_stuckIn_29 (by decide) (fun c2 => ?_) (fun c2 => ?_)
      · skip
        refine zr_aload_0 hO dX6_stuckIn_34 ?_
        refine zr_getfr (c := 6) hO (by decide) (by decide) zf_X6_16 hX rfl rfl dX6_stuckIn_35 ?_
        refine zr_V0 (D := d) hO hRm hL (by omega) (by decide) (c := 0) (by decide) (zC_0 hB) rfl rfl (e_X0_passTick (d := d - 1) htr hB (by omega)) zl_X6_133 zi_X0_passTick zs_X0_passTick zc_X0_passTick zn_X0 zd_X0_passTick (Nat.le_of_ble_eq_true rfl) dX6_stuckIn_38 (by omega) (by omega) ?_
        refine zr_iinc_2 (v := 1) hO dX6_stuckIn_41 (by decide) (by decide) rfl ?_
        refine zr_goto (tgt := 17) hO dX6_stuckIn_44 (by decide) ?_
        rw [nI_1]
        exact ih (k + 1) (cF_tick C) (by omega) (by rw [← he, cF_stk, if_pos c2])
      refine zr_iload_2 hO dX6_stuckIn_32 ?_
      exact zr_ireturn hO hE dX6_stuckIn_33 (fun z9 hz9 => zPx_i hz9 (by simp only [cP_stuckIn, hq3]; rw [← he, cF_stk, if_neg c2]))
  exact key (ix u) 0 _ (by omega) rfl
set_option maxRecDepth 100000 in
set_option maxHeartbeats 400000 in
theorem e_X6_doneIn {l : Launch} {G : zGm} {d n x o q : Nat} {ly : zLy} {τ : zTu} {σ A B : zSg} {t u : Int32}  (htr : l.stackTraces = false) (hX : ly x = (6 + 5, 2, zcr6 o q)) (hA : zC ly o) (hB : zC ly q) (hq : o + 95 ≤ q) (hd : 9 ≤ d) : zEv l G d 1 6 (yX6_doneIn, cX6_doneIn, 3, some .int) [.ref x, .int t, .int u] (fun x => n ≤ x) ly τ (zwr (zwr σ o 95 A) q 95 B) (zPx n ly τ (zwr σ o 95 A) q B (cP_doneIn A B t u)) := by
  refine zEv_of (ls := [some (.ref x), some (.int t), some (.int u), none, none, none, none, none, none]) htr (by decide) (Nat.le_of_ble_eq_true rfl) rfl (fun X hO hE hN hRm hL hNm => ?_)
  have hO : zOk G X RX6 cX6_doneIn 3 := hO
  rw [zwr_comm σ A B (Or.inl hq)]
  refine zr_aload_0 hO dX6_doneIn_0 ?_
  refine zr_iload_1 hO dX6_doneIn_1 ?_
  refine zr_aload_0 hO dX6_doneIn_2 ?_
  refine zr_iload_1 hO dX6_doneIn_3 ?_
  rcases hq2 : cF_rt A t with _ | i
  · refine zr_VT1 (D := d) hO hRm hL (by omega) (by decide) (c := 6) (by decide) hX rfl rfl (e_X6_requireTask_x (d := d - 1) htr hX hA (by omega) hq2) zl_X6_88 zi_X6_requireTask zs_X6_requireTask zc_X6_requireTask zn_X6 zd_X6_requireTask (Nat.le_of_ble_eq_true rfl) dX6_doneIn_4 (by omega) (by omega) ?_
    rw [← zwr_comm σ A B (Or.inl hq)]
    exact zX_out hO hE hN (fun z9 hz9 => zPx_x hz9 (by simp only [cP_doneIn, hq2]))
  have hi := cF_rt_lt hq2
  refine zr_V1 (D := d) hO hRm hL (by omega) (by decide) (c := 6) (by decide) hX rfl rfl (e_X6_requireTask_ok (d := d - 1) htr hX hA (by omega) hq2) zl_X6_88 zi_X6_requireTask zs_X6_requireTask zc_X6_requireTask zn_X6 zd_X6_requireTask (Nat.le_of_ble_eq_true rfl) dX6_doneIn_4 (by omega) (by omega) ?_
  refine zg_getfi (c := 4) hO (zC_t hA hi) (by have := hi; unfold ztk; omega) (by decide) (by decide) zf_X6_71 rfl dX6_doneIn_7 ?_
  rw [← zwr_comm σ A B (Or.inl hq)]
  refine zr_iload_2 hO dX6_doneIn_10 ?_
  refine zV_pc (pc' := 11) rfl ?_
  refine z_callV (As := [.int t, .int (A (ztk i) 3), .int u]) hO hRm hL (by omega) (by decide) (c := 6) (by decide) hX rfl rfl (e_X6_doneWith (d := d - 1) htr hX hA hB hq (by omega)) zl_X6_207 zi_X6_doneWith zs_X6_doneWith zc_X6_doneWith zn_X6 zd_X6_doneWith (Nat.le_of_ble_eq_true rfl) dX6_doneIn_11 (by omega) (by omega) (fun E9 z ly9 τ9 σ9 h => ?_) (fun v9 z ly9 τ9 σ9 h => ?_)
  · obtain ⟨h1, rfl, rfl, h4⟩ := h
    rcases hR : cP_doneWith A B t (A (ztk i) 3) u with q9 | E
    · rw [hR] at h4; exact absurd h4.1 (by simp)
    · rw [hR] at h4
      obtain ⟨h4, rfl⟩ := h4
      cases h4
      exact zX_out hO hE hN (fun z9 hz9 => by subst hz9; exact zPx_x h1 (by simp only [cP_doneIn, hq2]; exact hR))
  · obtain ⟨h1, rfl, rfl, h4⟩ := h
    rcases hR : cP_doneWith A B t (A (ztk i) 3) u with q9 | E
    · rw [hR] at h4
      obtain ⟨h4, rfl⟩ := h4
      cases h4
      exact zr_ireturn hO hE dX6_doneIn_14 (fun z9 hz9 => by subst hz9; exact zPx_i h1 (by simp only [cP_doneIn, hq2]; exact hR))
    · rw [hR] at h4; exact absurd h4.1 (by simp)
/-- the load, of the class -/
def cF_load (A : zSg) : UInt64 := if 0 < A 3 2 then FP.ddiv (FP.i2d (A 3 2 - A 3 1)) (FP.i2d (A 3 2)) else 0
set_option maxRecDepth 100000 in
set_option maxHeartbeats 400000 in
theorem e_X6_load {l : Launch} {G : zGm} {d n x o q : Nat} {ly : zLy} {τ : zTu} {σ M : zSg}  (htr : l.stackTraces = false) (hX : ly x = (6 + 5, 2, zcr6 o q)) (hM : zC ly o) (hd : 0 ≤ d)  : zEv l G d 0 0 (yX6_load, cX6_load, 2, some .double) [.ref x] (fun x => n ≤ x) ly τ (zwr σ o 95 M) (zPl n ly τ (zwr σ o 95 M) (some (.double (cF_load M)))) := by
  refine zEv_of (ls := [some (.ref x), none, none, none, none, none, none, none, none]) htr (by decide) (Nat.le_of_ble_eq_true rfl) rfl (fun X hO hE hN hRm hL hNm => ?_)
  have hO : zOk G X RX6 cX6_load 2 := hO
  refine zr_aload_0 hO dX6_load_0 ?_
  refine zr_getfr (c := 6) hO (by decide) (by decide) zf_X6_10 hX rfl rfl dX6_load_1 ?_
  refine zr_getfr (c := 0) hO (by decide) (by decide) zf_X6_172 (zC_0 hM) rfl rfl dX6_load_4 ?_
  refine zg_getfi (c := 5) hO (zC_3 hM) (by decide) (by decide) (by decide) zf_X6_204 rfl dX6_load_7 ?_
  refine zr_istore_1 hO dX6_load_10 (by decide) rfl ?_
  refine zr_iload_1 hO dX6_load_11 ?_
  refine zr_if_gt (tgt := 17) hO dX6_load_12 (by decide) (fun c => ?_) (fun c => ?_)
  · refine zr_iload_1 hO dX6_load_17 ?_
    refine zr_aload_0 hO dX6_load_18 ?_
    refine zr_getfr (c := 6) hO (by decide) (by decide) zf_X6_10 hX rfl rfl dX6_load_19 ?_
    refine zr_getfr (c := 0) hO (by decide) (by decide) zf_X6_172 (zC_0 hM) rfl rfl dX6_load_22 ?_
    refine zg_getfi (c := 5) hO (zC_3 hM) (by decide) (by decide) (by decide) zf_X6_185 rfl dX6_load_25 ?_
    refine zV_pc (pc' := 28) rfl ?_
    refine zr_isub hO dX6_load_28 ?_
    refine zr_i2d hO dX6_load_29 ?_
    refine zr_iload_1 hO dX6_load_30 ?_
    refine zr_i2d hO dX6_load_31 ?_
    refine zr_ddiv hO dX6_load_32 (zn64 _ (fun h9 => by rw [h9] at c; exact absurd c (by decide))) ?_
    refine zr_dreturn hO hE dX6_load_33 (fun z hz => ⟨?_, hz, rfl, rfl, rfl⟩)
    rw [cF_load, if_pos c]
  · refine zr_dconst0 hO dX6_load_15 ?_
    refine zr_dreturn hO hE dX6_load_16 (fun z hz => ⟨?_, hz, rfl, rfl, rfl⟩)
    rw [cF_load, if_neg c]
