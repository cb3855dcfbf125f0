set_option maxRecDepth 100000 in
set_option maxHeartbeats 4000000 in
theorem e_X0_taskAt {l : Launch} {G : zGm} {d n o : Nat} {ly : zLy} {τ : zTu} {σ M : zSg} {x : Int32} (htr : l.stackTraces = false) (hM : zC ly o) (hd : 0 ≤ d)  : zEv l G d 0 0 (yX0_taskAt, cX0_taskAt, 2, some (.object "BeadleKernel$Task")) [.ref o, .int x] (fun x => n ≤ x) ly τ (zwr σ o 95 M) (zPl n ly τ (zwr σ o 95 M) (some (zov o (cF_at x)))) := by
  refine zEv_of (ls := [some (.ref o), some (.int x), none, none, none, none, none, none, none]) htr (by decide) (Nat.le_of_ble_eq_true rfl) rfl (fun X hO hE hN hRm hL hNm => ?_)
  have hO : zOk G X RX0 cX0_taskAt 2 := hO
  refine zr_iload_1 hO dX0_taskAt_0 ?_
  refine zr_if_lt (tgt := 19) hO dX0_taskAt_1 (by decide) (fun c1 => ?_) (fun c1 => ?_)
  · refine zr_null hO dX0_taskAt_19 ?_
    exact zr_areturnN hO hE dX0_taskAt_20 (zpl_r (fun _ hz9 => hz9) (by first | ((simp only [cF_at, zov, if_pos c1]) <;> rfl) | contradiction))
  · refine zr_iload_1 hO dX0_taskAt_4 ?_
    refine zr_bipush (v := 16) hO dX0_taskAt_5 (by decide) ?_
    refine zr_icmp_ge (tgt := 19) hO dX0_taskAt_7 (by decide) (fun c7 => ?_) (fun c7 => ?_)
    · refine zr_null hO dX0_taskAt_19 ?_
      exact zr_areturnN hO hE dX0_taskAt_20 (zpl_r (fun _ hz9 => hz9) (by first | ((simp only [cF_at, zov, if_neg c1, if_neg c7]) <;> rfl) | contradiction))
    · refine zr_aload_0 hO dX0_taskAt_10 ?_
      refine zr_getfr (c := 0) hO (by decide) (by decide) zf_X0_27 (zC_0 hM) rfl rfl dX0_taskAt_11 ?_
      refine zr_iload_1 hO dX0_taskAt_14 ?_
      refine zr_aaldTx hO (zC_8 hM) (by first | assumption | exact zin_c (by assumption) (by assumption) rfl) dX0_taskAt_15 (fun hx15_0 => ?_)
      refine zr_goto (tgt := 20) hO dX0_taskAt_16 (by decide) ?_
      exact zr_areturn hO hE dX0_taskAt_20 (zpl_r (fun _ hz9 => hz9) (by first | ((simp only [cF_at, zov, if_neg c1, if_pos c7]) <;> rfl) | contradiction))
set_option maxRecDepth 100000 in
set_option maxHeartbeats 4000000 in
theorem e_X0_onProcessor {l : Launch} {G : zGm} {d n o : Nat} {ly : zLy} {τ : zTu} {σ M : zSg} {x : Int32} (htr : l.stackTraces = false) (hM : zC ly o) (hd : 0 ≤ d)  : zEv l G d 0 0 (yX0_onProcessor, cX0_onProcessor, 2, some .int) [.ref o, .int x] (fun x => n ≤ x) ly τ (zwr σ o 95 M) (zPl n ly τ (zwr σ o 95 M) (some (.int (cF_on M x)))) := by
  refine zEv_of (ls := [some (.ref o), some (.int x), none, none, none, none, none, none, none]) htr (by decide) (Nat.le_of_ble_eq_true rfl) rfl (fun X hO hE hN hRm hL hNm => ?_)
  have hO : zOk G X RX0 cX0_onProcessor 2 := hO
  refine zr_iload_1 hO dX0_onProcessor_0 ?_
  refine zr_if_lt (tgt := 18) hO dX0_onProcessor_1 (by decide) (fun c1 => ?_) (fun c1 => ?_)
  · refine zr_iconst (v := (-1)) hO dX0_onProcessor_18 (by decide) ?_
    exact zr_ireturn hO hE dX0_onProcessor_19 (zpl_i (by first | ((simp only [cF_on, if_pos c1]) <;> rfl) | contradiction) rfl)
  · refine zr_iload_1 hO dX0_onProcessor_4 ?_
    refine zr_iconst (v := 3) hO dX0_onProcessor_5 (by decide) ?_
    refine zr_icmp_ge (tgt := 18) hO dX0_onProcessor_6 (by decide) (fun c6 => ?_) (fun c6 => ?_)
    · refine zr_iconst (v := (-1)) hO dX0_onProcessor_18 (by decide) ?_
      exact zr_ireturn hO hE dX0_onProcessor_19 (zpl_i (by first | ((simp only [cF_on, if_neg c1, if_neg c6]) <;> rfl) | contradiction) rfl)
    · refine zr_aload_0 hO dX0_onProcessor_9 ?_
      refine zr_getfr (c := 0) hO (by decide) (by decide) zf_X0_41 (zC_0 hM) rfl rfl dX0_onProcessor_10 ?_
      refine zr_iload_1 hO dX0_onProcessor_13 ?_
      refine zg_iald hO (zC_12 hM) (by decide) (by first | assumption | exact zin_c (by assumption) (by assumption) rfl) dX0_onProcessor_14 ?_
      refine zr_goto (tgt := 19) hO dX0_onProcessor_15 (by decide) ?_
      exact zr_ireturn hO hE dX0_onProcessor_19 (zpl_i (by first | ((simp only [cF_on, if_neg c1, if_pos c6]) <;> rfl) | contradiction) rfl)
set_option maxRecDepth 100000 in
set_option maxHeartbeats 4000000 in
theorem e_X0_holderOf {l : Launch} {G : zGm} {d n o : Nat} {ly : zLy} {τ : zTu} {σ M : zSg} {x : Int32} (htr : l.stackTraces = false) (hM : zC ly o) (hd : 0 ≤ d)  : zEv l G d 0 0 (yX0_holderOf, cX0_holderOf, 2, some .int) [.ref o, .int x] (fun x => n ≤ x) ly τ (zwr σ o 95 M) (zPl n ly τ (zwr σ o 95 M) (some (.int (cF_holder M x)))) := by
  refine zEv_of (ls := [some (.ref o), some (.int x), none, none, none, none, none, none, none]) htr (by decide) (Nat.le_of_ble_eq_true rfl) rfl (fun X hO hE hN hRm hL hNm => ?_)
  have hO : zOk G X RX0 cX0_holderOf 2 := hO
  refine zr_iload_1 hO dX0_holderOf_0 ?_
  refine zr_if_lt (tgt := 19) hO dX0_holderOf_1 (by decide) (fun c1 => ?_) (fun c1 => ?_)
  · refine zr_iconst (v := (-1)) hO dX0_holderOf_19 (by decide) ?_
    exact zr_ireturn hO hE dX0_holderOf_20 (zpl_i (by first | ((simp only [cF_holder, if_pos c1]) <;> rfl) | contradiction) rfl)
  · refine zr_iload_1 hO dX0_holderOf_4 ?_
    refine zr_bipush (v := 6) hO dX0_holderOf_5 (by decide) ?_
    refine zr_icmp_ge (tgt := 19) hO dX0_holderOf_7 (by decide) (fun c7 => ?_) (fun c7 => ?_)
    · refine zr_iconst (v := (-1)) hO dX0_holderOf_19 (by decide) ?_
      exact zr_ireturn hO hE dX0_holderOf_20 (zpl_i (by first | ((simp only [cF_holder, if_neg c1, if_neg c7]) <;> rfl) | contradiction) rfl)
    · refine zr_aload_0 hO dX0_holderOf_10 ?_
      refine zr_getfr (c := 0) hO (by decide) (by decide) zf_X0_35 (zC_0 hM) rfl rfl dX0_holderOf_11 ?_
      refine zr_iload_1 hO dX0_holderOf_14 ?_
      refine zg_iald hO (zC_10 hM) (by decide) (by first | assumption | exact zin_c (by assumption) (by assumption) rfl) dX0_holderOf_15 ?_
      refine zr_goto (tgt := 20) hO dX0_holderOf_16 (by decide) ?_
      exact zr_ireturn hO hE dX0_holderOf_20 (zpl_i (by first | ((simp only [cF_holder, if_neg c1, if_pos c7]) <;> rfl) | contradiction) rfl)
set_option maxRecDepth 100000 in
set_option maxHeartbeats 4000000 in
theorem e_X0_numberOf {l : Launch} {G : zGm} {d n o : Nat} {ly : zLy} {τ : zTu} {σ M : zSg} {x : Int32} (htr : l.stackTraces = false) (hM : zC ly o) (hd : 0 ≤ d)  : zEv l G d 0 0 (yX0_numberOf, cX0_numberOf, 2, some .int) [.ref o, .int x] (fun x => n ≤ x) ly τ (zwr σ o 95 M) (zPl n ly τ (zwr σ o 95 M) (some (.int (cF_number M x)))) := by
  refine zEv_of (ls := [some (.ref o), some (.int x), none, none, none, none, none, none, none]) htr (by decide) (Nat.le_of_ble_eq_true rfl) rfl (fun X hO hE hN hRm hL hNm => ?_)
  have hO : zOk G X RX0 cX0_numberOf 2 := hO
  refine zr_iload_1 hO dX0_numberOf_0 ?_
  refine zr_if_lt (tgt := 19) hO dX0_numberOf_1 (by decide) (fun c1 => ?_) (fun c1 => ?_)
  · refine zr_iconst (v := 0) hO dX0_numberOf_19 (by decide) ?_
    exact zr_ireturn hO hE dX0_numberOf_20 (zpl_i (by first | ((simp only [cF_number, if_pos c1]) <;> rfl) | contradiction) rfl)
  · refine zr_iload_1 hO dX0_numberOf_4 ?_
    refine zr_bipush (v := 6) hO dX0_numberOf_5 (by decide) ?_
    refine zr_icmp_ge (tgt := 19) hO dX0_numberOf_7 (by decide) (fun c7 => ?_) (fun c7 => ?_)
    · refine zr_iconst (v := 0) hO dX0_numberOf_19 (by decide) ?_
      exact zr_ireturn hO hE dX0_numberOf_20 (zpl_i (by first | ((simp only [cF_number, if_neg c1, if_neg c7]) <;> rfl) | contradiction) rfl)
    · refine zr_aload_0 hO dX0_numberOf_10 ?_
      refine zr_getfr (c := 0) hO (by decide) (by decide) zf_X0_38 (zC_0 hM) rfl rfl dX0_numberOf_11 ?_
      refine zr_iload_1 hO dX0_numberOf_14 ?_
      refine zg_iald hO (zC_11 hM) (by decide) (by first | assumption | exact zin_c (by assumption) (by assumption) rfl) dX0_numberOf_15 ?_
      refine zr_goto (tgt := 20) hO dX0_numberOf_16 (by decide) ?_
      exact zr_ireturn hO hE dX0_numberOf_20 (zpl_i (by first | ((simp only [cF_number, if_neg c1, if_pos c7]) <;> rfl) | contradiction) rfl)
set_option maxRecDepth 100000 in
set_option maxHeartbeats 4000000 in
theorem e_X0_tasksIn {l : Launch} {G : zGm} {d n o : Nat} {ly : zLy} {τ : zTu} {σ M : zSg} {st : Int32} (htr : l.stackTraces = false) (hM : zC ly o) (hd : 0 ≤ d)  : zEv l G d 0 0 (yX0_tasksIn, cX0_tasksIn, 7, some .int) [.ref o, .int st] (fun x => n ≤ x) ly τ (zwr σ o 95 M) (zPl n ly τ (zwr σ o 95 M) (some (.int (cF_in M st)))) := by
  refine zEv_of (ls := [some (.ref o), some (.int st), none, none, none, none, none, none, none]) htr (by decide) (Nat.le_of_ble_eq_true rfl) rfl (fun X hO hE hN hRm hL hNm => ?_)
  have hO : zOk G X RX0 cX0_tasksIn 7 := hO
  refine zr_iconst (v := 0) hO dX0_tasksIn_0 (by decide) ?_
  refine zr_istore_2 hO dX0_tasksIn_1 (by decide) rfl ?_
  refine zr_aload_0 hO dX0_tasksIn_2 ?_
  refine zr_getfr (c := 0) hO (by decide) (by decide) zf_X0_27 (zC_0 hM) rfl rfl dX0_tasksIn_3 ?_
  refine zr_astore_3 hO dX0_tasksIn_6 (by decide) rfl ?_
  refine zr_aload_3 hO dX0_tasksIn_7 ?_
  refine zr_alenT (v := 16) hO (zC_8 hM) rfl dX0_tasksIn_8 ?_
  refine zV_pc (pc' := 9) rfl ?_
  refine zr_istore_4 hO dX0_tasksIn_9 (by decide) rfl ?_
  refine zr_iconst (v := 0) hO dX0_tasksIn_11 (by decide) ?_
  refine zr_istore_5 hO dX0_tasksIn_12 (by decide) rfl ?_
  refine z_for (P := fun k s => zV G X 7 0 0 (fun x => n ≤ x) ly τ (zwr σ o 95 M) 14 [some (.ref o), some (.int st), some (.int s), some (.ref (o + 8)), some (.int 16), some (.int (nI k)), none, none, none] []) 16 (cB_in M st) (fun _ _ => True) 0 trivial (fun _ _ _ _ => trivial) ?_ ?_
  · intro k s hk hIk ih
    refine zr_iload_5 hO dX0_tasksIn_14 ?_
    refine zr_iload_4 hO dX0_tasksIn_16 ?_
    refine zr_icmp_ge (tgt := 52) hO dX0_tasksIn_18 (by decide) (fun c18 => ?_) (fun c18 => ?_)
    · exact absurd (zlt_T (x := 16) (by decide) hk) c18
    · refine zr_aload_3 hO dX0_tasksIn_21 ?_
      refine zr_iload_5 hO dX0_tasksIn_22 ?_
      refine zr_aaldTN hO (zC_8 hM) hk dX0_tasksIn_24 ?_
      refine zr_astore_6 hO dX0_tasksIn_25 (by decide) rfl ?_
      refine zr_aload_6 hO dX0_tasksIn_27 ?_
      refine zg_getfi (c := 4) hO (zC_t hM hk) (by have := hk; unfold ztk; omega) (by decide) (by decide) zf_X0_82 rfl dX0_tasksIn_29 ?_
      refine zr_iload_1 hO dX0_tasksIn_32 ?_
      refine zV_pc (pc' := 33) rfl ?_
      refine zr_icmp_ne (tgt := 46) hO dX0_tasksIn_33 (by decide) (fun c33 => ?_) (fun c33 => ?_)
      · refine zr_iinc_5 (v := 1) hO dX0_tasksIn_46 (by decide) (by decide) rfl ?_
        refine zr_goto (tgt := 14) hO dX0_tasksIn_49 (by decide) ?_
        refine zV_d6 ?_
        rw [nI_1]
        simp only [cB_in, if_pos c18, if_neg c33] at ih
        first | exact ih | contradiction
      · refine zr_iload_2 hO dX0_tasksIn_36 ?_
        refine zr_iconst (v := 1) hO dX0_tasksIn_37 (by decide) ?_
        refine zr_aload_6 hO dX0_tasksIn_38 ?_
        refine zg_getfi (c := 4) hO (zC_t hM hk) (by have := hk; unfold ztk; omega) (by decide) (by decide) zf_X0_85 rfl dX0_tasksIn_40 ?_
        refine zr_ishl hO dX0_tasksIn_43 ?_
        refine zr_ior hO dX0_tasksIn_44 ?_
        refine zr_istore_2 hO dX0_tasksIn_45 (by decide) rfl ?_
        refine zV_pc (pc' := 46) rfl ?_
        refine zr_iinc_5 (v := 1) hO dX0_tasksIn_46 (by decide) (by decide) rfl ?_
        refine zr_goto (tgt := 14) hO dX0_tasksIn_49 (by decide) ?_
        refine zV_d6 ?_
        rw [nI_1]
        simp only [cB_in, if_pos c18, if_pos c33] at ih
        first | exact ih | contradiction
  · intro hIk
    refine zr_iload_5 hO dX0_tasksIn_14 ?_
    refine zr_iload_4 hO dX0_tasksIn_16 ?_
    refine zr_icmp_ge (tgt := 52) hO dX0_tasksIn_18 (by decide) (fun c18 => ?_) (fun c18 => ?_)
    · refine zr_iload_2 hO dX0_tasksIn_52 ?_
      exact zr_ireturn hO hE dX0_tasksIn_53 (zpl_i (by first | ((simp only [cF_in, if_neg c18]) <;> rfl) | contradiction) rfl)
    · exact absurd c18 (zlt_F (x := 16) (by decide))
set_option maxRecDepth 100000 in
set_option maxHeartbeats 4000000 in
theorem e_X0_waitersAt {l : Launch} {G : zGm} {d n o : Nat} {ly : zLy} {τ : zTu} {σ M : zSg} {st q : Int32} (htr : l.stackTraces = false) (hM : zC ly o) (hd : 1 ≤ d)  : zEv l G d 0 0 (yX0_waitersAt, cX0_waitersAt, 8, some .int) [.ref o, .int st, .int q] (fun x => n ≤ x) ly τ (zwr σ o 95 M) (zPl n ly τ (zwr σ o 95 M) (some (.int (cF_wt M st q)))) := by
  refine zEv_of (ls := [some (.ref o), some (.int st), some (.int q), none, none, none, none, none, none]) htr (by decide) (Nat.le_of_ble_eq_true rfl) rfl (fun X hO hE hN hRm hL hNm => ?_)
  have hO : zOk G X RX0 cX0_waitersAt 8 := hO
  refine zr_iconst (v := 0) hO dX0_waitersAt_0 (by decide) ?_
  refine zr_istore_3 hO dX0_waitersAt_1 (by decide) rfl ?_
  refine zr_aload_0 hO dX0_waitersAt_2 ?_
  refine zr_getfr (c := 0) hO (by decide) (by decide) zf_X0_27 (zC_0 hM) rfl rfl dX0_waitersAt_3 ?_
  refine zr_astore_4 hO dX0_waitersAt_6 (by decide) rfl ?_
  refine zr_aload_4 hO dX0_waitersAt_8 ?_
  refine zr_alenT (v := 16) hO (zC_8 hM) rfl dX0_waitersAt_10 ?_
  refine zV_pc (pc' := 11) rfl ?_
  refine zr_istore_5 hO dX0_waitersAt_11 (by decide) rfl ?_
  refine zr_iconst (v := 0) hO dX0_waitersAt_13 (by decide) ?_
  refine zr_istore_6 hO dX0_waitersAt_14 (by decide) rfl ?_
  refine z_for (P := fun k s => zV G X 8 0 0 (fun x => n ≤ x) ly τ (zwr σ o 95 M) 16 [some (.ref o), some (.int st), some (.int q), some (.int s), some (.ref (o + 8)), some (.int 16), some (.int (nI k)), none, none] []) 16 (cB_wt M st q) (fun _ _ => True) 0 trivial (fun _ _ _ _ => trivial) ?_ ?_
  · intro k s hk hIk ih
    refine zr_iload_6 hO dX0_waitersAt_16 ?_
    refine zr_iload_5 hO dX0_waitersAt_18 ?_
    refine zr_icmp_ge (tgt := 56) hO dX0_waitersAt_20 (by decide) (fun c20 => ?_) (fun c20 => ?_)
    · exact absurd (zlt_T (x := 16) (by decide) hk) c20
    · refine zr_aload_4 hO dX0_waitersAt_23 ?_
      refine zr_iload_6 hO dX0_waitersAt_25 ?_
      refine zr_aaldTN hO (zC_8 hM) hk dX0_waitersAt_27 ?_
      refine zr_astore_7 hO dX0_waitersAt_28 (by decide) rfl ?_
      refine zr_aload_7 hO dX0_waitersAt_30 ?_
      refine zr_iload_1 hO dX0_waitersAt_32 ?_
      refine zr_iload_2 hO dX0_waitersAt_33 ?_
      refine zV_pc (pc' := 34) rfl ?_
      refine zr_V2 (D := d) hO hRm hL (by omega) (by decide) (c := 4) (by decide) (zC_t hM hk) rfl rfl (e_X4_waitsAt (d := d - 1) htr hM (by omega) hk) zl_X0_88 zi_X4_waitsAt zs_X4_waitsAt zc_X4_waitsAt zn_X4 zd_X4_waitsAt (Nat.le_of_ble_eq_true rfl) dX0_waitersAt_34 (by omega) (by omega) ?_
      refine zr_ifb_eq (tgt := 50) hO dX0_waitersAt_37 (by decide) (fun c37 => ?_) (fun c37 => ?_)
      · refine zr_iinc_6 (v := 1) hO dX0_waitersAt_50 (by decide) (by decide) rfl ?_
        refine zr_goto (tgt := 16) hO dX0_waitersAt_53 (by decide) ?_
        refine zV_d7 ?_
        rw [nI_1]
        simp only [cB_wt, if_pos c20, if_neg (zif_f c37)] at ih
        first | exact ih | contradiction
      · refine zr_iload_3 hO dX0_waitersAt_40 ?_
        refine zr_iconst (v := 1) hO dX0_waitersAt_41 (by decide) ?_
        refine zr_aload_7 hO dX0_waitersAt_42 ?_
        refine zg_getfi (c := 4) hO (zC_t hM hk) (by have := hk; unfold ztk; omega) (by decide) (by decide) zf_X0_85 rfl dX0_waitersAt_44 ?_
        refine zr_ishl hO dX0_waitersAt_47 ?_
        refine zr_ior hO dX0_waitersAt_48 ?_
        refine zr_istore_3 hO dX0_waitersAt_49 (by decide) rfl ?_
        refine zV_pc (pc' := 50) rfl ?_
        refine zr_iinc_6 (v := 1) hO dX0_waitersAt_50 (by decide) (by decide) rfl ?_
        refine zr_goto (tgt := 16) hO dX0_waitersAt_53 (by decide) ?_
        refine zV_d7 ?_
        rw [nI_1]
        simp only [cB_wt, if_pos c20, if_pos c37] at ih
        first | exact ih | contradiction
  · intro hIk
    refine zr_iload_6 hO dX0_waitersAt_16 ?_
    refine zr_iload_5 hO dX0_waitersAt_18 ?_
    refine zr_icmp_ge (tgt := 56) hO dX0_waitersAt_20 (by decide) (fun c20 => ?_) (fun c20 => ?_)
    · refine zr_iload_3 hO dX0_waitersAt_56 ?_
      exact zr_ireturn hO hE dX0_waitersAt_57 (zpl_i (by first | ((simp only [cF_wt, if_neg c20]) <;> rfl) | contradiction) rfl)
    · exact absurd c20 (zlt_F (x := 16) (by decide))
set_option maxRecDepth 100000 in
set_option maxHeartbeats 4000000 in
theorem e_X0_makeReady {l : Launch} {G : zGm} {d n o : Nat} {ly : zLy} {τ : zTu} {σ M : zSg} {i : Nat}  (htr : l.stackTraces = false) (hM : zC ly o) (hd : 0 ≤ d) (hi : i < 16) : zEv l G d 0 0 (yX0_makeReady, cX0_makeReady, 2, none) [.ref o, .ref (o + ztk i)] (fun x => n ≤ x) ly τ (zwr σ o 95 M) (zPl n ly τ (zwr σ o 95 (cF_ready M i)) none) := by
  refine zEv_of (ls := [some (.ref o), some (.ref (o + ztk i)), none, none, none, none, none, none, none]) htr (by decide) (Nat.le_of_ble_eq_true rfl) rfl (fun X hO hE hN hRm hL hNm => ?_)
  have hO : zOk G X RX0 cX0_makeReady 2 := hO
  refine zr_aload_1 hO dX0_makeReady_0 ?_
  refine zr_iconst (v := 1) hO dX0_makeReady_1 (by decide) ?_
  refine zg_putfi (c := 4) hO (zC_t hM hi) (by have := hi; unfold ztk; omega) (by decide) (by decide) zf_X0_82 rfl rfl dX0_makeReady_2 ?_
  refine zr_aload_1 hO dX0_makeReady_5 ?_
  refine zr_aload_0 hO dX0_makeReady_6 ?_
  refine zg_getfi0 (c := 0) hO (zC_0 hM) (by decide) (by decide) (by decide) zf_X0_76 rfl dX0_makeReady_7 ?_
  refine zg_putfi (c := 4) hO (zC_t hM hi) (by have := hi; unfold ztk; omega) (by decide) (by decide) zf_X0_126 rfl rfl dX0_makeReady_10 ?_
  refine zV_pc (pc' := 13) rfl ?_
  refine zr_aload_0 hO dX0_makeReady_13 ?_
  refine zr_dup hO dX0_makeReady_14 rfl ?_
  refine zg_getfi0 (c := 0) hO (zC_0 hM) (by decide) (by decide) (by decide) zf_X0_76 rfl dX0_makeReady_15 ?_
  refine zr_iconst (v := 1) hO dX0_makeReady_18 (by decide) ?_
  refine zr_iadd hO dX0_makeReady_19 ?_
  refine zg_putfi0 (c := 0) hO (zC_0 hM) (by decide) (by decide) (by decide) zf_X0_76 rfl rfl dX0_makeReady_20 ?_
  exact zr_return hO hE dX0_makeReady_23 (zpl_v (by first | ((simp only [cF_ready]) <;> rfl) | contradiction))
set_option maxRecDepth 100000 in
set_option maxHeartbeats 4000000 in
theorem e_X0_leastTimeBeside {l : Launch} {G : zGm} {d n o : Nat} {ly : zLy} {τ : zTu} {σ M : zSg} {i : Nat}  (htr : l.stackTraces = false) (hM : zC ly o) (hd : 0 ≤ d) (hi : i < 16) : zEv l G d 0 0 (yX0_leastTimeBeside, cX0_leastTimeBeside, 8, some .int) [.ref o, .ref (o + ztk i)] (fun x => n ≤ x) ly τ (zwr σ o 95 M) (zPl n ly τ (zwr σ o 95 M) (some (.int (cF_least M i)))) := by
  refine zEv_of (ls := [some (.ref o), some (.ref (o + ztk i)), none, none, none, none, none, none, none]) htr (by decide) (Nat.le_of_ble_eq_true rfl) rfl (fun X hO hE hN hRm hL hNm => ?_)
  have hO : zOk G X RX0 cX0_leastTimeBeside 8 := hO
  refine zr_iconst (v := (-1)) hO dX0_leastTimeBeside_0 (by decide) ?_
  refine zr_istore_2 hO dX0_leastTimeBeside_1 (by decide) rfl ?_
  refine zr_aload_0 hO dX0_leastTimeBeside_2 ?_
  refine zr_getfr (c := 0) hO (by decide) (by decide) zf_X0_27 (zC_0 hM) rfl rfl dX0_leastTimeBeside_3 ?_
  refine zr_astore_3 hO dX0_leastTimeBeside_6 (by decide) rfl ?_
  refine zr_aload_3 hO dX0_leastTimeBeside_7 ?_
  refine zr_alenT (v := 16) hO (zC_8 hM) rfl dX0_leastTimeBeside_8 ?_
  refine zV_pc (pc' := 9) rfl ?_
  refine zr_istore_4 hO dX0_leastTimeBeside_9 (by decide) rfl ?_
  refine zr_iconst (v := 0) hO dX0_leastTimeBeside_11 (by decide) ?_
  refine zr_istore_5 hO dX0_leastTimeBeside_12 (by decide) rfl ?_
  refine z_for (P := fun k s => zV G X 8 0 0 (fun x => n ≤ x) ly τ (zwr σ o 95 M) 14 [some (.ref o), some (.ref (o + ztk i)), some (.int s), some (.ref (o + 8)), some (.int 16), some (.int (nI k)), none, none, none] []) 16 (cB_least M i) (fun _ _ => True) (-1) trivial (fun _ _ _ _ => trivial) ?_ ?_
  · intro k s hk hIk ih
    refine zr_iload_5 hO dX0_leastTimeBeside_14 ?_
    refine zr_iload_4 hO dX0_leastTimeBeside_16 ?_
    refine zr_icmp_ge (tgt := 89) hO dX0_leastTimeBeside_18 (by decide) (fun c18 => ?_) (fun c18 => ?_)
    · exact absurd (zlt_T (x := 16) (by decide) hk) c18
    · refine zr_aload_3 hO dX0_leastTimeBeside_21 ?_
      refine zr_iload_5 hO dX0_leastTimeBeside_22 ?_
      refine zr_aaldTN hO (zC_8 hM) hk dX0_leastTimeBeside_24 ?_
      refine zr_astore_6 hO dX0_leastTimeBeside_25 (by decide) rfl ?_
      refine zr_aload_6 hO dX0_leastTimeBeside_27 ?_
      refine zr_aload_1 hO dX0_leastTimeBeside_29 ?_
      refine zr_acmp_eq (tgt := 55) hO dX0_leastTimeBeside_30 (by decide) (fun c300 => ?_) (fun c300 => ?_)
      · have c30 : k = i := by unfold ztk at c300; omega
        refine zr_iconst (v := 0) hO dX0_leastTimeBeside_55 (by decide) ?_
        refine zr_istore_7 hO dX0_leastTimeBeside_56 (by decide) rfl ?_
        refine zr_iload_7 hO dX0_leastTimeBeside_58 ?_
        refine zr_if_eq (tgt := 83) hO dX0_leastTimeBeside_60 (by decide) (fun c60 => ?_) (fun c60 => ?_)
        · refine zr_iinc_5 (v := 1) hO dX0_leastTimeBeside_83 (by decide) (by decide) rfl ?_
          refine zr_goto (tgt := 14) hO dX0_leastTimeBeside_86 (by decide) ?_
          refine zV_d6 ?_
          refine zV_d7 ?_
          rw [nI_1]
          simp only [cB_least, if_pos c18, if_pos c30] at ih
          first | exact ih | contradiction
        · exact absurd (by decide) c60
      · have c30 : ¬ k = i := by unfold ztk at c300; omega
        refine zr_aload_6 hO dX0_leastTimeBeside_33 ?_
        refine zg_getfi (c := 4) hO (zC_t hM hk) (by have := hk; unfold ztk; omega) (by decide) (by decide) zf_X0_82 rfl dX0_leastTimeBeside_35 ?_
        refine zr_iconst (v := 1) hO dX0_leastTimeBeside_38 (by decide) ?_
        refine zr_icmp_eq (tgt := 51) hO dX0_leastTimeBeside_39 (by decide) (fun c39 => ?_) (fun c39 => ?_)
        · refine zr_iconst (v := 1) hO dX0_leastTimeBeside_51 (by decide) ?_
          refine zr_goto (tgt := 56) hO dX0_leastTimeBeside_52 (by decide) ?_
          refine zr_istore_7 hO dX0_leastTimeBeside_56 (by decide) rfl ?_
          refine zr_iload_7 hO dX0_leastTimeBeside_58 ?_
          refine zr_if_eq (tgt := 83) hO dX0_leastTimeBeside_60 (by decide) (fun c60 => ?_) (fun c60 => ?_)
          · exact absurd c60 (by decide)
          · refine zr_iload_2 hO dX0_leastTimeBeside_63 ?_
            refine zr_iconst (v := (-1)) hO dX0_leastTimeBeside_64 (by decide) ?_
            refine zr_icmp_eq (tgt := 77) hO dX0_leastTimeBeside_65 (by decide) (fun c65 => ?_) (fun c65 => ?_)
            · refine zr_aload_6 hO dX0_leastTimeBeside_77 ?_
              refine zg_getfi (c := 4) hO (zC_t hM hk) (by have := hk; unfold ztk; omega) (by decide) (by decide) zf_X0_120 rfl dX0_leastTimeBeside_79 ?_
              refine zr_istore_2 hO dX0_leastTimeBeside_82 (by decide) rfl ?_
              refine zr_iinc_5 (v := 1) hO dX0_leastTimeBeside_83 (by decide) (by decide) rfl ?_
              refine zr_goto (tgt := 14) hO dX0_leastTimeBeside_86 (by decide) ?_
              refine zV_d6 ?_
              refine zV_d7 ?_
              rw [nI_1]
              simp only [cB_least, if_pos c18, if_neg c30, if_pos c39, if_pos c65] at ih
              first | exact ih | contradiction
            · refine zr_aload_6 hO dX0_leastTimeBeside_68 ?_
              refine zg_getfi (c := 4) hO (zC_t hM hk) (by have := hk; unfold ztk; omega) (by decide) (by decide) zf_X0_120 rfl dX0_leastTimeBeside_70 ?_
              refine zr_iload_2 hO dX0_leastTimeBeside_73 ?_
              refine zr_icmp_ge (tgt := 83) hO dX0_leastTimeBeside_74 (by decide) (fun c74 => ?_) (fun c74 => ?_)
              · refine zr_iinc_5 (v := 1) hO dX0_leastTimeBeside_83 (by decide) (by decide) rfl ?_
                refine zr_goto (tgt := 14) hO dX0_leastTimeBeside_86 (by decide) ?_
                refine zV_d6 ?_
                refine zV_d7 ?_
                rw [nI_1]
                simp only [cB_least, if_pos c18, if_neg c30, if_pos c39, if_neg c65, if_neg c74] at ih
                first | exact ih | contradiction
              · refine zr_aload_6 hO dX0_leastTimeBeside_77 ?_
                refine zg_getfi (c := 4) hO (zC_t hM hk) (by have := hk; unfold ztk; omega) (by decide) (by decide) zf_X0_120 rfl dX0_leastTimeBeside_79 ?_
                refine zr_istore_2 hO dX0_leastTimeBeside_82 (by decide) rfl ?_
                refine zr_iinc_5 (v := 1) hO dX0_leastTimeBeside_83 (by decide) (by decide) rfl ?_
                refine zr_goto (tgt := 14) hO dX0_leastTimeBeside_86 (by decide) ?_
                refine zV_d6 ?_
                refine zV_d7 ?_
                rw [nI_1]
                simp only [cB_least, if_pos c18, if_neg c30, if_pos c39, if_neg c65, if_pos c74] at ih
                first | exact ih | contradiction
        · refine zr_aload_6 hO dX0_leastTimeBeside_42 ?_
          refine zg_getfi (c := 4) hO (zC_t hM hk) (by have := hk; unfold ztk; omega) (by decide) (by decide) zf_X0_82 rfl dX0_leastTimeBeside_44 ?_
          refine zr_iconst (v := 2) hO dX0_leastTimeBeside_47 (by decide) ?_
          refine zr_icmp_ne (tgt := 55) hO dX0_leastTimeBeside_48 (by decide) (fun c48 => ?_) (fun c48 => ?_)
          · refine zr_iconst (v := 0) hO dX0_leastTimeBeside_55 (by decide) ?_
            refine zr_istore_7 hO dX0_leastTimeBeside_56 (by decide) rfl ?_
            refine zr_iload_7 hO dX0_leastTimeBeside_58 ?_
            refine zr_if_eq (tgt := 83) hO dX0_leastTimeBeside_60 (by decide) (fun c60 => ?_) (fun c60 => ?_)
            · refine zr_iinc_5 (v := 1) hO dX0_leastTimeBeside_83 (by decide) (by decide) rfl ?_
              refine zr_goto (tgt := 14) hO dX0_leastTimeBeside_86 (by decide) ?_
              refine zV_d6 ?_
              refine zV_d7 ?_
              rw [nI_1]
              simp only [cB_least, if_pos c18, if_neg c30, if_neg c39, if_neg c48] at ih
              first | exact ih | contradiction
            · exact absurd (by decide) c60
          · refine zr_iconst (v := 1) hO dX0_leastTimeBeside_51 (by decide) ?_
            refine zr_goto (tgt := 56) hO dX0_leastTimeBeside_52 (by decide) ?_
            refine zr_istore_7 hO dX0_leastTimeBeside_56 (by decide) rfl ?_
            refine zr_iload_7 hO dX0_leastTimeBeside_58 ?_
            refine zr_if_eq (tgt := 83) hO dX0_leastTimeBeside_60 (by decide) (fun c60 => ?_) (fun c60 => ?_)
            · exact absurd c60 (by decide)
            · refine zr_iload_2 hO dX0_leastTimeBeside_63 ?_
              refine zr_iconst (v := (-1)) hO dX0_leastTimeBeside_64 (by decide) ?_
              refine zr_icmp_eq (tgt := 77) hO dX0_leastTimeBeside_65 (by decide) (fun c65 => ?_) (fun c65 => ?_)
              · refine zr_aload_6 hO dX0_leastTimeBeside_77 ?_
                refine zg_getfi (c := 4) hO (zC_t hM hk) (by have := hk; unfold ztk; omega) (by decide) (by decide) zf_X0_120 rfl dX0_leastTimeBeside_79 ?_
                refine zr_istore_2 hO dX0_leastTimeBeside_82 (by decide) rfl ?_
                refine zr_iinc_5 (v := 1) hO dX0_leastTimeBeside_83 (by decide) (by decide) rfl ?_
                refine zr_goto (tgt := 14) hO dX0_leastTimeBeside_86 (by decide) ?_
                refine zV_d6 ?_
                refine zV_d7 ?_
                rw [nI_1]
                simp only [cB_least, if_pos c18, if_neg c30, if_neg c39, if_pos c48, if_pos c65] at ih
                first | exact ih | contradiction
              · refine zr_aload_6 hO dX0_leastTimeBeside_68 ?_
                refine zg_getfi (c := 4) hO (zC_t hM hk) (by have := hk; unfold ztk; omega) (by decide) (by decide) zf_X0_120 rfl dX0_leastTimeBeside_70 ?_
                refine zr_iload_2 hO dX0_leastTimeBeside_73 ?_
                refine zr_icmp_ge (tgt := 83) hO dX0_leastTimeBeside_74 (by decide) (fun c74 => ?_) (fun c74 => ?_)
                · refine zr_iinc_5 (v := 1) hO dX0_leastTimeBeside_83 (by decide) (by decide) rfl ?_
                  refine zr_goto (tgt := 14) hO dX0_leastTimeBeside_86 (by decide) ?_
                  refine zV_d6 ?_
                  refine zV_d7 ?_
                  rw [nI_1]
                  simp only [cB_least, if_pos c18, if_neg c30, if_neg c39, if_pos c48, if_neg c65, if_neg c74] at ih
                  first | exact ih | contradiction
                · refine zr_aload_6 hO dX0_leastTimeBeside_77 ?_
                  refine zg_getfi (c := 4) hO (zC_t hM hk) (by have := hk; unfold ztk; omega) (by decide) (by decide) zf_X0_120 rfl dX0_leastTimeBeside_79 ?_
                  refine zr_istore_2 hO dX0_leastTimeBeside_82 (by decide) rfl ?_
                  refine zr_iinc_5 (v := 1) hO dX0_leastTimeBeside_83 (by decide) (by decide) rfl ?_
                  refine zr_goto (tgt := 14) hO dX0_leastTimeBeside_86 (by decide) ?_
                  refine zV_d6 ?_
                  refine zV_d7 ?_
                  rw [nI_1]
                  simp only [cB_least, if_pos c18, if_neg c30, if_neg c39, if_pos c48, if_neg c65, if_pos c74] at ih
                  first | exact ih | contradiction
  · intro hIk
    refine zr_iload_5 hO dX0_leastTimeBeside_14 ?_
    refine zr_iload_4 hO dX0_leastTimeBeside_16 ?_
    refine zr_icmp_ge (tgt := 89) hO dX0_leastTimeBeside_18 (by decide) (fun c18 => ?_) (fun c18 => ?_)
    · refine zr_iload_2 hO dX0_leastTimeBeside_89 ?_
      exact zr_ireturn hO hE dX0_leastTimeBeside_90 (zpl_i (by first | ((simp only [cF_least, if_neg c18]) <;> rfl) | contradiction) rfl)
    · exact absurd c18 (zlt_F (x := 16) (by decide))
set_option maxRecDepth 100000 in
set_option maxHeartbeats 4000000 in
theorem e_X0_startTask {l : Launch} {G : zGm} {d n o : Nat} {ly : zLy} {τ : zTu} {σ M : zSg} {i : Nat}  (htr : l.stackTraces = false) (hM : zC ly o) (hd : 1 ≤ d) (hi : i < 16) : zEv l G d 0 0 (yX0_startTask, cX0_startTask, 3, none) [.ref o, .ref (o + ztk i)] (fun x => n ≤ x) ly τ (zwr σ o 95 M) (zPl n ly τ (zwr σ o 95 (cF_start M i)) none) := by
  refine zEv_of (ls := [some (.ref o), some (.ref (o + ztk i)), none, none, none, none, none, none, none]) htr (by decide) (Nat.le_of_ble_eq_true rfl) rfl (fun X hO hE hN hRm hL hNm => ?_)
  have hO : zOk G X RX0 cX0_startTask 3 := hO
  refine zr_aload_0 hO dX0_startTask_0 ?_
  refine zr_aload_1 hO dX0_startTask_1 ?_
  refine zr_V1 (D := d) hO hRm hL (by omega) (by decide) (c := 0) (by decide) (zC_0 hM) rfl rfl (e_X0_leastTimeBeside (d := d - 1) htr hM (by omega) hi) zl_X0_116 zi_X0_leastTimeBeside zs_X0_leastTimeBeside zc_X0_leastTimeBeside zn_X0 zd_X0_leastTimeBeside (Nat.le_of_ble_eq_true rfl) dX0_startTask_2 (by omega) (by omega) ?_
  refine zr_istore_2 hO dX0_startTask_5 (by decide) rfl ?_
  refine zr_aload_1 hO dX0_startTask_6 ?_
  refine zr_iload_2 hO dX0_startTask_7 ?_
  refine zr_iconst (v := (-1)) hO dX0_startTask_8 (by decide) ?_
  refine zV_pc (pc' := 9) rfl ?_
  refine zr_icmp_ne (tgt := 16) hO dX0_startTask_9 (by decide) (fun c9 => ?_) (fun c9 => ?_)
  · refine zr_iload_2 hO dX0_startTask_16 ?_
    refine zg_putfi (c := 4) hO (zC_t hM hi) (by have := hi; unfold ztk; omega) (by decide) (by decide) zf_X0_120 rfl rfl dX0_startTask_17 ?_
    refine zr_aload_0 hO dX0_startTask_20 ?_
    refine zr_aload_1 hO dX0_startTask_21 ?_
    refine zr_V1 (D := d) hO hRm hL (by omega) (by decide) (c := 0) (by decide) (zC_0 hM) rfl rfl (e_X0_makeReady (d := d - 1) htr hM (by omega) hi) zl_X0_123 zi_X0_makeReady zs_X0_makeReady zc_X0_makeReady zn_X0 zd_X0_makeReady (Nat.le_of_ble_eq_true rfl) dX0_startTask_22 (by omega) (by omega) ?_
    exact zr_return hO hE dX0_startTask_25 (zpl_v (by first | ((simp only [cF_start, if_neg c9]) <;> rfl) | contradiction))
  · refine zr_iconst (v := 0) hO dX0_startTask_12 (by decide) ?_
    refine zr_goto (tgt := 17) hO dX0_startTask_13 (by decide) ?_
    refine zg_putfi (c := 4) hO (zC_t hM hi) (by have := hi; unfold ztk; omega) (by decide) (by decide) zf_X0_120 rfl rfl dX0_startTask_17 ?_
    refine zr_aload_0 hO dX0_startTask_20 ?_
    refine zr_aload_1 hO dX0_startTask_21 ?_
    refine zr_V1 (D := d) hO hRm hL (by omega) (by decide) (c := 0) (by decide) (zC_0 hM) rfl rfl (e_X0_makeReady (d := d - 1) htr hM (by omega) hi) zl_X0_123 zi_X0_makeReady zs_X0_makeReady zc_X0_makeReady zn_X0 zd_X0_makeReady (Nat.le_of_ble_eq_true rfl) dX0_startTask_22 (by omega) (by omega) ?_
    exact zr_return hO hE dX0_startTask_25 (zpl_v (by first | ((simp only [cF_start, if_pos c9]) <;> rfl) | contradiction))
set_option maxRecDepth 100000 in
set_option maxHeartbeats 4000000 in
theorem e_X0_wake {l : Launch} {G : zGm} {d n o : Nat} {ly : zLy} {τ : zTu} {σ M : zSg} {i : Nat}  (htr : l.stackTraces = false) (hM : zC ly o) (hd : 1 ≤ d) (hi : i < 16) : zEv l G d 0 0 (yX0_wake, cX0_wake, 3, none) [.ref o, .ref (o + ztk i)] (fun x => n ≤ x) ly τ (zwr σ o 95 M) (zPl n ly τ (zwr σ o 95 (cF_wake M i)) none) := by
  refine zEv_of (ls := [some (.ref o), some (.ref (o + ztk i)), none, none, none, none, none, none, none]) htr (by decide) (Nat.le_of_ble_eq_true rfl) rfl (fun X hO hE hN hRm hL hNm => ?_)
  have hO : zOk G X RX0 cX0_wake 3 := hO
  refine zr_aload_0 hO dX0_wake_0 ?_
  refine zr_getfr (c := 0) hO (by decide) (by decide) zf_X0_12 (zC_0 hM) rfl rfl dX0_wake_1 ?_
  refine zg_getfi (c := 2) hO (zC_1 hM) (by decide) (by decide) (by decide) zf_X0_107 rfl dX0_wake_4 ?_
  refine zr_iconst (v := 1) hO dX0_wake_7 (by decide) ?_
  refine zr_icmp_ne (tgt := 28) hO dX0_wake_8 (by decide) (fun c8 => ?_) (fun c8 => ?_)
  · refine zr_aload_0 hO dX0_wake_28 ?_
    refine zr_getfr (c := 0) hO (by decide) (by decide) zf_X0_12 (zC_0 hM) rfl rfl dX0_wake_29 ?_
    refine zg_getfi (c := 2) hO (zC_1 hM) (by decide) (by decide) (by decide) zf_X0_107 rfl dX0_wake_32 ?_
    refine zr_iconst (v := 2) hO dX0_wake_35 (by decide) ?_
    refine zr_icmp_ne (tgt := 58) hO dX0_wake_36 (by decide) (fun c36 => ?_) (fun c36 => ?_)
    · refine zr_aload_0 hO dX0_wake_58 ?_
      refine zr_aload_1 hO dX0_wake_59 ?_
      refine zr_V1 (D := d) hO hRm hL (by omega) (by decide) (c := 0) (by decide) (zC_0 hM) rfl rfl (e_X0_makeReady (d := d - 1) htr hM (by omega) hi) zl_X0_123 zi_X0_makeReady zs_X0_makeReady zc_X0_makeReady zn_X0 zd_X0_makeReady (Nat.le_of_ble_eq_true rfl) dX0_wake_60 (by omega) (by omega) ?_
      exact zr_return hO hE dX0_wake_63 (zpl_v (by first | ((simp only [cF_wake, if_neg c8, if_neg c36]) <;> rfl) | contradiction))
    · refine zr_aload_0 hO dX0_wake_39 ?_
      refine zr_aload_1 hO dX0_wake_40 ?_
      refine zr_V1 (D := d) hO hRm hL (by omega) (by decide) (c := 0) (by decide) (zC_0 hM) rfl rfl (e_X0_leastTimeBeside (d := d - 1) htr hM (by omega) hi) zl_X0_116 zi_X0_leastTimeBeside zs_X0_leastTimeBeside zc_X0_leastTimeBeside zn_X0 zd_X0_leastTimeBeside (Nat.le_of_ble_eq_true rfl) dX0_wake_41 (by omega) (by omega) ?_
      refine zr_istore_2 hO dX0_wake_44 (by decide) rfl ?_
      refine zr_aload_1 hO dX0_wake_45 ?_
      refine zg_getfi (c := 4) hO (zC_t hM hi) (by have := hi; unfold ztk; omega) (by decide) (by decide) zf_X0_120 rfl dX0_wake_46 ?_
      refine zr_iload_2 hO dX0_wake_49 ?_
      refine zV_pc (pc' := 50) rfl ?_
      refine zr_icmp_ge (tgt := 58) hO dX0_wake_50 (by decide) (fun c50 => ?_) (fun c50 => ?_)
      · refine zr_aload_0 hO dX0_wake_58 ?_
        refine zr_aload_1 hO dX0_wake_59 ?_
        refine zr_V1 (D := d) hO hRm hL (by omega) (by decide) (c := 0) (by decide) (zC_0 hM) rfl rfl (e_X0_makeReady (d := d - 1) htr hM (by omega) hi) zl_X0_123 zi_X0_makeReady zs_X0_makeReady zc_X0_makeReady zn_X0 zd_X0_makeReady (Nat.le_of_ble_eq_true rfl) dX0_wake_60 (by omega) (by omega) ?_
        exact zr_return hO hE dX0_wake_63 (zpl_v (by first | ((simp only [cF_wake, if_neg c8, if_pos c36, if_neg c50]) <;> rfl) | contradiction))
      · refine zr_aload_1 hO dX0_wake_53 ?_
        refine zr_iload_2 hO dX0_wake_54 ?_
        refine zg_putfi (c := 4) hO (zC_t hM hi) (by have := hi; unfold ztk; omega) (by decide) (by decide) zf_X0_120 rfl rfl dX0_wake_55 ?_
        refine zr_aload_0 hO dX0_wake_58 ?_
        refine zr_aload_1 hO dX0_wake_59 ?_
        refine zr_V1 (D := d) hO hRm hL (by omega) (by decide) (c := 0) (by decide) (zC_0 hM) rfl rfl (e_X0_makeReady (d := d - 1) htr hM (by omega) hi) zl_X0_123 zi_X0_makeReady zs_X0_makeReady zc_X0_makeReady zn_X0 zd_X0_makeReady (Nat.le_of_ble_eq_true rfl) dX0_wake_60 (by omega) (by omega) ?_
        exact zr_return hO hE dX0_wake_63 (zpl_v (by first | ((simp only [cF_wake, if_neg c8, if_pos c36, if_pos c50]) <;> rfl) | contradiction))
  · refine zr_aload_1 hO dX0_wake_11 ?_
    refine zg_getfi (c := 4) hO (zC_t hM hi) (by have := hi; unfold ztk; omega) (by decide) (by decide) zf_X0_129 rfl dX0_wake_12 ?_
    refine zr_if_le (tgt := 28) hO dX0_wake_15 (by decide) (fun c15 => ?_) (fun c15 => ?_)
    · refine zr_aload_0 hO dX0_wake_28 ?_
      refine zr_getfr (c := 0) hO (by decide) (by decide) zf_X0_12 (zC_0 hM) rfl rfl dX0_wake_29 ?_
      refine zg_getfi (c := 2) hO (zC_1 hM) (by decide) (by decide) (by decide) zf_X0_107 rfl dX0_wake_32 ?_
      refine zr_iconst (v := 2) hO dX0_wake_35 (by decide) ?_
      refine zr_icmp_ne (tgt := 58) hO dX0_wake_36 (by decide) (fun c36 => ?_) (fun c36 => ?_)
      · refine zr_aload_0 hO dX0_wake_58 ?_
        refine zr_aload_1 hO dX0_wake_59 ?_
        refine zr_V1 (D := d) hO hRm hL (by omega) (by decide) (c := 0) (by decide) (zC_0 hM) rfl rfl (e_X0_makeReady (d := d - 1) htr hM (by omega) hi) zl_X0_123 zi_X0_makeReady zs_X0_makeReady zc_X0_makeReady zn_X0 zd_X0_makeReady (Nat.le_of_ble_eq_true rfl) dX0_wake_60 (by omega) (by omega) ?_
        exact zr_return hO hE dX0_wake_63 (zpl_v (by first | ((simp only [cF_wake, if_pos c8, if_neg c15, if_neg c36]) <;> rfl) | contradiction))
      · refine zr_aload_0 hO dX0_wake_39 ?_
        refine zr_aload_1 hO dX0_wake_40 ?_
        refine zr_V1 (D := d) hO hRm hL (by omega) (by decide) (c := 0) (by decide) (zC_0 hM) rfl rfl (e_X0_leastTimeBeside (d := d - 1) htr hM (by omega) hi) zl_X0_116 zi_X0_leastTimeBeside zs_X0_leastTimeBeside zc_X0_leastTimeBeside zn_X0 zd_X0_leastTimeBeside (Nat.le_of_ble_eq_true rfl) dX0_wake_41 (by omega) (by omega) ?_
        refine zr_istore_2 hO dX0_wake_44 (by decide) rfl ?_
        refine zr_aload_1 hO dX0_wake_45 ?_
        refine zg_getfi (c := 4) hO (zC_t hM hi) (by have := hi; unfold ztk; omega) (by decide) (by decide) zf_X0_120 rfl dX0_wake_46 ?_
        refine zr_iload_2 hO dX0_wake_49 ?_
        refine zV_pc (pc' := 50) rfl ?_
        refine zr_icmp_ge (tgt := 58) hO dX0_wake_50 (by decide) (fun c50 => ?_) (fun c50 => ?_)
        · refine zr_aload_0 hO dX0_wake_58 ?_
          refine zr_aload_1 hO dX0_wake_59 ?_
          refine zr_V1 (D := d) hO hRm hL (by omega) (by decide) (c := 0) (by decide) (zC_0 hM) rfl rfl (e_X0_makeReady (d := d - 1) htr hM (by omega) hi) zl_X0_123 zi_X0_makeReady zs_X0_makeReady zc_X0_makeReady zn_X0 zd_X0_makeReady (Nat.le_of_ble_eq_true rfl) dX0_wake_60 (by omega) (by omega) ?_
          exact zr_return hO hE dX0_wake_63 (zpl_v (by first | ((simp only [cF_wake, if_pos c8, if_neg c15, if_pos c36, if_neg c50]) <;> rfl) | contradiction))
        · refine zr_aload_1 hO dX0_wake_53 ?_
          refine zr_iload_2 hO dX0_wake_54 ?_
          refine zg_putfi (c := 4) hO (zC_t hM hi) (by have := hi; unfold ztk; omega) (by decide) (by decide) zf_X0_120 rfl rfl dX0_wake_55 ?_
          refine zr_aload_0 hO dX0_wake_58 ?_
          refine zr_aload_1 hO dX0_wake_59 ?_
          refine zr_V1 (D := d) hO hRm hL (by omega) (by decide) (c := 0) (by decide) (zC_0 hM) rfl rfl (e_X0_makeReady (d := d - 1) htr hM (by omega) hi) zl_X0_123 zi_X0_makeReady zs_X0_makeReady zc_X0_makeReady zn_X0 zd_X0_makeReady (Nat.le_of_ble_eq_true rfl) dX0_wake_60 (by omega) (by omega) ?_
          exact zr_return hO hE dX0_wake_63 (zpl_v (by first | ((simp only [cF_wake, if_pos c8, if_neg c15, if_pos c36, if_pos c50]) <;> rfl) | contradiction))
    · refine zr_aload_1 hO dX0_wake_18 ?_
      refine zr_dup hO dX0_wake_19 rfl ?_
      refine zg_getfi (c := 4) hO (zC_t hM hi) (by have := hi; unfold ztk; omega) (by decide) (by decide) zf_X0_129 rfl dX0_wake_20 ?_
      refine zr_iconst (v := 1) hO dX0_wake_23 (by decide) ?_
      refine zr_isub hO dX0_wake_24 ?_
      refine zg_putfi (c := 4) hO (zC_t hM hi) (by have := hi; unfold ztk; omega) (by decide) (by decide) zf_X0_129 rfl rfl dX0_wake_25 ?_
      refine zr_aload_0 hO dX0_wake_28 ?_
      refine zV_pc (pc' := 29) rfl ?_
      refine zr_getfr (c := 0) hO (by decide) (by decide) zf_X0_12 (zC_0 hM) rfl rfl dX0_wake_29 ?_
      refine zg_getfi (c := 2) hO (zC_1 hM) (by decide) (by decide) (by decide) zf_X0_107 rfl dX0_wake_32 ?_
      refine zr_iconst (v := 2) hO dX0_wake_35 (by decide) ?_
      refine zr_icmp_ne (tgt := 58) hO dX0_wake_36 (by decide) (fun c36 => ?_) (fun c36 => ?_)
      · refine zr_aload_0 hO dX0_wake_58 ?_
        refine zr_aload_1 hO dX0_wake_59 ?_
        refine zr_V1 (D := d) hO hRm hL (by omega) (by decide) (c := 0) (by decide) (zC_0 hM) rfl rfl (e_X0_makeReady (d := d - 1) htr hM (by omega) hi) zl_X0_123 zi_X0_makeReady zs_X0_makeReady zc_X0_makeReady zn_X0 zd_X0_makeReady (Nat.le_of_ble_eq_true rfl) dX0_wake_60 (by omega) (by omega) ?_
        exact zr_return hO hE dX0_wake_63 (zpl_v (by first | ((simp only [cF_wake, if_pos c8, if_pos c15, if_neg c36]) <;> rfl) | contradiction))
      · refine zr_aload_0 hO dX0_wake_39 ?_
        refine zr_aload_1 hO dX0_wake_40 ?_
        refine zr_V1 (D := d) hO hRm hL (by omega) (by decide) (c := 0) (by decide) (zC_0 hM) rfl rfl (e_X0_leastTimeBeside (d := d - 1) htr hM (by omega) hi) zl_X0_116 zi_X0_leastTimeBeside zs_X0_leastTimeBeside zc_X0_leastTimeBeside zn_X0 zd_X0_leastTimeBeside (Nat.le_of_ble_eq_true rfl) dX0_wake_41 (by omega) (by omega) ?_
        refine zr_istore_2 hO dX0_wake_44 (by decide) rfl ?_
        refine zr_aload_1 hO dX0_wake_45 ?_
        refine zg_getfi (c := 4) hO (zC_t hM hi) (by have := hi; unfold ztk; omega) (by decide) (by decide) zf_X0_120 rfl dX0_wake_46 ?_
        refine zr_iload_2 hO dX0_wake_49 ?_
        refine zV_pc (pc' := 50) rfl ?_
        refine zr_icmp_ge (tgt := 58) hO dX0_wake_50 (by decide) (fun c50 => ?_) (fun c50 => ?_)
        · refine zr_aload_0 hO dX0_wake_58 ?_
          refine zr_aload_1 hO dX0_wake_59 ?_
          refine zr_V1 (D := d) hO hRm hL (by omega) (by decide) (c := 0) (by decide) (zC_0 hM) rfl rfl (e_X0_makeReady (d := d - 1) htr hM (by omega) hi) zl_X0_123 zi_X0_makeReady zs_X0_makeReady zc_X0_makeReady zn_X0 zd_X0_makeReady (Nat.le_of_ble_eq_true rfl) dX0_wake_60 (by omega) (by omega) ?_
          exact zr_return hO hE dX0_wake_63 (zpl_v (by first | ((simp only [cF_wake, if_pos c8, if_pos c15, if_pos c36, if_neg c50]) <;> rfl) | contradiction))
        · refine zr_aload_1 hO dX0_wake_53 ?_
          refine zr_iload_2 hO dX0_wake_54 ?_
          refine zg_putfi (c := 4) hO (zC_t hM hi) (by have := hi; unfold ztk; omega) (by decide) (by decide) zf_X0_120 rfl rfl dX0_wake_55 ?_
          refine zr_aload_0 hO dX0_wake_58 ?_
          refine zr_aload_1 hO dX0_wake_59 ?_
          refine zr_V1 (D := d) hO hRm hL (by omega) (by decide) (c := 0) (by decide) (zC_0 hM) rfl rfl (e_X0_makeReady (d := d - 1) htr hM (by omega) hi) zl_X0_123 zi_X0_makeReady zs_X0_makeReady zc_X0_makeReady zn_X0 zd_X0_makeReady (Nat.le_of_ble_eq_true rfl) dX0_wake_60 (by omega) (by omega) ?_
          exact zr_return hO hE dX0_wake_63 (zpl_v (by first | ((simp only [cF_wake, if_pos c8, if_pos c15, if_pos c36, if_pos c50]) <;> rfl) | contradiction))
set_option maxRecDepth 100000 in
set_option maxHeartbeats 4000000 in
theorem e_X0_leaveProcessor {l : Launch} {G : zGm} {d n o : Nat} {ly : zLy} {τ : zTu} {σ M : zSg} {i : Nat}  (htr : l.stackTraces = false) (hM : zC ly o) (hd : 0 ≤ d) (hi : i < 16) : zEv l G d 0 0 (yX0_leaveProcessor, cX0_leaveProcessor, 3, none) [.ref o, .ref (o + ztk i)] (fun x => n ≤ x) ly τ (zwr σ o 95 M) (zPl n ly τ (zwr σ o 95 (cF_leave M i)) none) := by
  refine zEv_of (ls := [some (.ref o), some (.ref (o + ztk i)), none, none, none, none, none, none, none]) htr (by decide) (Nat.le_of_ble_eq_true rfl) rfl (fun X hO hE hN hRm hL hNm => ?_)
  have hO : zOk G X RX0 cX0_leaveProcessor 3 := hO
  refine zr_iconst (v := 0) hO dX0_leaveProcessor_0 (by decide) ?_
  refine zr_istore_2 hO dX0_leaveProcessor_1 (by decide) rfl ?_
  refine z_for (P := fun k s => zV G X 3 0 0 (fun x => n ≤ x) ly τ (zwr σ o 95 s) 2 [some (.ref o), some (.ref (o + ztk i)), some (.int (nI k)), none, none, none, none, none, none] []) 3 (cB_leave i) (fun _ _ => True) M trivial (fun _ _ _ _ => trivial) ?_ ?_
  · intro k s hk hIk ih
    refine zr_iload_2 hO dX0_leaveProcessor_2 ?_
    refine zr_iconst (v := 3) hO dX0_leaveProcessor_3 (by decide) ?_
    refine zr_icmp_ge (tgt := 33) hO dX0_leaveProcessor_4 (by decide) (fun c4 => ?_) (fun c4 => ?_)
    · exact absurd (zlt_T (x := 3) (by decide) hk) c4
    · refine zr_aload_0 hO dX0_leaveProcessor_7 ?_
      refine zr_getfr (c := 0) hO (by decide) (by decide) zf_X0_41 (zC_0 hM) rfl rfl dX0_leaveProcessor_8 ?_
      refine zr_iload_2 hO dX0_leaveProcessor_11 ?_
      refine zg_ialdN hO (zC_12 hM) (by decide) hk (by decide) dX0_leaveProcessor_12 ?_
      refine zr_aload_1 hO dX0_leaveProcessor_13 ?_
      refine zg_getfi (c := 4) hO (zC_t hM hi) (by have := hi; unfold ztk; omega) (by decide) (by decide) zf_X0_85 rfl dX0_leaveProcessor_14 ?_
      refine zr_icmp_ne (tgt := 27) hO dX0_leaveProcessor_17 (by decide) (fun c17 => ?_) (fun c17 => ?_)
      · refine zr_iinc_2 (v := 1) hO dX0_leaveProcessor_27 (by decide) (by decide) rfl ?_
        refine zr_goto (tgt := 2) hO dX0_leaveProcessor_30 (by decide) ?_
        rw [nI_1]
        simp only [cB_leave, if_pos c4, if_neg c17] at ih
        first | exact ih | contradiction
      · refine zr_aload_0 hO dX0_leaveProcessor_20 ?_
        refine zr_getfr (c := 0) hO (by decide) (by decide) zf_X0_41 (zC_0 hM) rfl rfl dX0_leaveProcessor_21 ?_
        refine zr_iload_2 hO dX0_leaveProcessor_24 ?_
        refine zr_iconst (v := (-1)) hO dX0_leaveProcessor_25 (by decide) ?_
        refine zg_iastN hO (zC_12 hM) (by decide) hk (by decide) dX0_leaveProcessor_26 ?_
        refine zr_iinc_2 (v := 1) hO dX0_leaveProcessor_27 (by decide) (by decide) rfl ?_
        refine zr_goto (tgt := 2) hO dX0_leaveProcessor_30 (by decide) ?_
        rw [nI_1]
        simp only [cB_leave, if_pos c4, if_pos c17] at ih
        first | exact ih | contradiction
  · intro hIk
    refine zr_iload_2 hO dX0_leaveProcessor_2 ?_
    refine zr_iconst (v := 3) hO dX0_leaveProcessor_3 (by decide) ?_
    refine zr_icmp_ge (tgt := 33) hO dX0_leaveProcessor_4 (by decide) (fun c4 => ?_) (fun c4 => ?_)
    · exact zr_return hO hE dX0_leaveProcessor_33 (zpl_v (by first | ((simp only [cF_leave, if_neg c4]) <;> rfl) | contradiction))
    · exact absurd c4 (zlt_F (x := 3) (by decide))
set_option maxRecDepth 100000 in
set_option maxHeartbeats 4000000 in
theorem e_X0_clearProcessors {l : Launch} {G : zGm} {d n o : Nat} {ly : zLy} {τ : zTu} {σ M : zSg}  (htr : l.stackTraces = false) (hM : zC ly o) (hd : 0 ≤ d)  : zEv l G d 0 0 (yX0_clearProcessors, cX0_clearProcessors, 5, none) [.ref o] (fun x => n ≤ x) ly τ (zwr σ o 95 M) (zPl n ly τ (zwr σ o 95 (cF_clear M)) none) := by
  refine zEv_of (ls := [some (.ref o), none, none, none, none, none, none, none, none]) htr (by decide) (Nat.le_of_ble_eq_true rfl) rfl (fun X hO hE hN hRm hL hNm => ?_)
  have hO : zOk G X RX0 cX0_clearProcessors 5 := hO
  refine zr_iconst (v := 0) hO dX0_clearProcessors_0 (by decide) ?_
  refine zr_istore_1 hO dX0_clearProcessors_1 (by decide) rfl ?_
  refine z_for (P := fun k s => zV G X 5 0 0 (fun x => n ≤ x) ly τ (zwr σ o 95 s) 2 [some (.ref o), some (.int (nI k)), none, none, none, none, none, none, none] []) 3 (fun k s => zup s 12 k (-1)) (fun _ _ => True) M trivial (fun _ _ _ _ => trivial) ?_ ?_
  · intro k s hk hIk ih
    refine zr_iload_1 hO dX0_clearProcessors_2 ?_
    refine zr_iconst (v := 3) hO dX0_clearProcessors_3 (by decide) ?_
    refine zr_icmp_ge (tgt := 20) hO dX0_clearProcessors_4 (by decide) (fun c4 => ?_) (fun c4 => ?_)
    · exact absurd (zlt_T (x := 3) (by decide) hk) c4
    · refine zr_aload_0 hO dX0_clearProcessors_7 ?_
      refine zr_getfr (c := 0) hO (by decide) (by decide) zf_X0_41 (zC_0 hM) rfl rfl dX0_clearProcessors_8 ?_
      refine zr_iload_1 hO dX0_clearProcessors_11 ?_
      refine zr_iconst (v := (-1)) hO dX0_clearProcessors_12 (by decide) ?_
      refine zg_iastN hO (zC_12 hM) (by decide) hk (by decide) dX0_clearProcessors_13 ?_
      refine zr_iinc_1 (v := 1) hO dX0_clearProcessors_14 (by decide) (by decide) rfl ?_
      refine zr_goto (tgt := 2) hO dX0_clearProcessors_17 (by decide) ?_
      rw [nI_1]
      exact ih
  · intro hIk
    refine zr_iload_1 hO dX0_clearProcessors_2 ?_
    refine zr_iconst (v := 3) hO dX0_clearProcessors_3 (by decide) ?_
    refine zr_icmp_ge (tgt := 20) hO dX0_clearProcessors_4 (by decide) (fun c4 => ?_) (fun c4 => ?_)
    · refine zr_aload_0 hO dX0_clearProcessors_20 ?_
      refine zr_getfr (c := 0) hO (by decide) (by decide) zf_X0_27 (zC_0 hM) rfl rfl dX0_clearProcessors_21 ?_
      refine zr_astore_1 hO dX0_clearProcessors_24 (by decide) rfl ?_
      refine zr_aload_1 hO dX0_clearProcessors_25 ?_
      refine zr_alenT (v := 16) hO (zC_8 hM) rfl dX0_clearProcessors_26 ?_
      refine zr_istore_2 hO dX0_clearProcessors_27 (by decide) rfl ?_
      refine zr_iconst (v := 0) hO dX0_clearProcessors_28 (by decide) ?_
      refine zV_pc (pc' := 29) rfl ?_
      refine zr_istore_3 hO dX0_clearProcessors_29 (by decide) rfl ?_
      refine z_for (P := fun k s => zV G X 5 0 0 (fun x => n ≤ x) ly τ (zwr σ o 95 s) 30 [some (.ref o), some (.ref (o + 8)), some (.int 16), some (.int (nI k)), none, none, none, none, none] []) 16 cB_clr (fun _ _ => True) ((List.range 3).foldl (fun s k => zup s 12 k (-1)) M) trivial (fun _ _ _ _ => trivial) ?_ ?_
      · intro k s hk hIk ih
        refine zr_iload_3 hO dX0_clearProcessors_30 ?_
        refine zr_iload_2 hO dX0_clearProcessors_31 ?_
        refine zr_icmp_ge (tgt := 61) hO dX0_clearProcessors_32 (by decide) (fun c32 => ?_) (fun c32 => ?_)
        · exact absurd (zlt_T (x := 16) (by decide) hk) c32
        · refine zr_aload_1 hO dX0_clearProcessors_35 ?_
          refine zr_iload_3 hO dX0_clearProcessors_36 ?_
          refine zr_aaldTN hO (zC_8 hM) hk dX0_clearProcessors_37 ?_
          refine zr_astore_4 hO dX0_clearProcessors_38 (by decide) rfl ?_
          refine zr_aload_4 hO dX0_clearProcessors_40 ?_
          refine zg_getfi (c := 4) hO (zC_t hM hk) (by have := hk; unfold ztk; omega) (by decide) (by decide) zf_X0_82 rfl dX0_clearProcessors_42 ?_
          refine zr_iconst (v := 2) hO dX0_clearProcessors_45 (by decide) ?_
          refine zV_pc (pc' := 46) rfl ?_
          refine zr_icmp_ne (tgt := 55) hO dX0_clearProcessors_46 (by decide) (fun c46 => ?_) (fun c46 => ?_)
          · refine zr_iinc_3 (v := 1) hO dX0_clearProcessors_55 (by decide) (by decide) rfl ?_
            refine zr_goto (tgt := 30) hO dX0_clearProcessors_58 (by decide) ?_
            refine zV_d4 ?_
            rw [nI_1]
            simp only [cB_clr, if_pos c32, if_neg c46] at ih
            first | exact ih | contradiction
          · refine zr_aload_4 hO dX0_clearProcessors_49 ?_
            refine zr_iconst (v := 1) hO dX0_clearProcessors_51 (by decide) ?_
            refine zg_putfi (c := 4) hO (zC_t hM hk) (by have := hk; unfold ztk; omega) (by decide) (by decide) zf_X0_82 rfl rfl dX0_clearProcessors_52 ?_
            refine zr_iinc_3 (v := 1) hO dX0_clearProcessors_55 (by decide) (by decide) rfl ?_
            refine zr_goto (tgt := 30) hO dX0_clearProcessors_58 (by decide) ?_
            refine zV_d4 ?_
            rw [nI_1]
            simp only [cB_clr, if_pos c32, if_pos c46] at ih
            first | exact ih | contradiction
      · intro hIk
        refine zr_iload_3 hO dX0_clearProcessors_30 ?_
        refine zr_iload_2 hO dX0_clearProcessors_31 ?_
        refine zr_icmp_ge (tgt := 61) hO dX0_clearProcessors_32 (by decide) (fun c32 => ?_) (fun c32 => ?_)
        · exact zr_return hO hE dX0_clearProcessors_61 (zpl_v (by first | ((simp only [cF_clear, if_neg c4, if_neg c32]) <;> rfl) | contradiction))
        · exact absurd c32 (zlt_F (x := 16) (by decide))
    · exact absurd c4 (zlt_F (x := 3) (by decide))
set_option maxRecDepth 100000 in
set_option maxHeartbeats 4000000 in
theorem e_X0_waitFor {l : Launch} {G : zGm} {d n o : Nat} {ly : zLy} {τ : zTu} {σ M : zSg} {i : Nat} {st w : Int32} (htr : l.stackTraces = false) (hM : zC ly o) (hd : 1 ≤ d) (hi : i < 16) : zEv l G d 0 0 (yX0_waitFor, cX0_waitFor, 4, none) [.ref o, .ref (o + ztk i), .int st, .int w] (fun x => n ≤ x) ly τ (zwr σ o 95 M) (zPl n ly τ (zwr σ o 95 (cF_waitFor M i st w)) none) := by
  refine zEv_of (ls := [some (.ref o), some (.ref (o + ztk i)), some (.int st), some (.int w), none, none, none, none, none]) htr (by decide) (Nat.le_of_ble_eq_true rfl) rfl (fun X hO hE hN hRm hL hNm => ?_)
  have hO : zOk G X RX0 cX0_waitFor 4 := hO
  refine zr_aload_0 hO dX0_waitFor_0 ?_
  refine zr_aload_1 hO dX0_waitFor_1 ?_
  refine zr_V1 (D := d) hO hRm hL (by omega) (by decide) (c := 0) (by decide) (zC_0 hM) rfl rfl (e_X0_leaveProcessor (d := d - 1) htr hM (by omega) hi) zl_X0_132 zi_X0_leaveProcessor zs_X0_leaveProcessor zc_X0_leaveProcessor zn_X0 zd_X0_leaveProcessor (Nat.le_of_ble_eq_true rfl) dX0_waitFor_2 (by omega) (by omega) ?_
  refine zr_aload_1 hO dX0_waitFor_5 ?_
  refine zr_iload_2 hO dX0_waitFor_6 ?_
  refine zg_putfi (c := 4) hO (zC_t hM hi) (by have := hi; unfold ztk; omega) (by decide) (by decide) zf_X0_82 rfl rfl dX0_waitFor_7 ?_
  refine zr_aload_1 hO dX0_waitFor_10 ?_
  refine zV_pc (pc' := 11) rfl ?_
  refine zr_iload_3 hO dX0_waitFor_11 ?_
  refine zg_putfi (c := 4) hO (zC_t hM hi) (by have := hi; unfold ztk; omega) (by decide) (by decide) zf_X0_96 rfl rfl dX0_waitFor_12 ?_
  refine zr_aload_1 hO dX0_waitFor_15 ?_
  refine zr_aload_0 hO dX0_waitFor_16 ?_
  refine zg_getfi0 (c := 0) hO (zC_0 hM) (by decide) (by decide) (by decide) zf_X0_79 rfl dX0_waitFor_17 ?_
  refine zg_putfi (c := 4) hO (zC_t hM hi) (by have := hi; unfold ztk; omega) (by decide) (by decide) zf_X0_160 rfl rfl dX0_waitFor_20 ?_
  refine zr_aload_0 hO dX0_waitFor_23 ?_
  refine zV_pc (pc' := 24) rfl ?_
  refine zr_dup hO dX0_waitFor_24 rfl ?_
  refine zg_getfi0 (c := 0) hO (zC_0 hM) (by decide) (by decide) (by decide) zf_X0_79 rfl dX0_waitFor_25 ?_
  refine zr_iconst (v := 1) hO dX0_waitFor_28 (by decide) ?_
  refine zr_iadd hO dX0_waitFor_29 ?_
  refine zg_putfi0 (c := 0) hO (zC_0 hM) (by decide) (by decide) (by decide) zf_X0_79 rfl rfl dX0_waitFor_30 ?_
  exact zr_return hO hE dX0_waitFor_33 (zpl_v (by first | ((simp only [cF_waitFor]) <;> rfl) | contradiction))
set_option maxRecDepth 100000 in
set_option maxHeartbeats 4000000 in
theorem e_X0_lockBy {l : Launch} {G : zGm} {d n o : Nat} {ly : zLy} {τ : zTu} {σ M : zSg} {i : Nat} {q : Int32} (htr : l.stackTraces = false) (hM : zC ly o) (hd : 2 ≤ d) (hi : i < 16) : zEv l G d 0 0 (yX0_lockBy, cX0_lockBy, 3, none) [.ref o, .ref (o + ztk i), .int q] (fun x => n ≤ x) ly τ (zwr σ o 95 M) (zPl n ly τ (zwr σ o 95 (cF_lockBy M i q)) none) := by
  refine zEv_of (ls := [some (.ref o), some (.ref (o + ztk i)), some (.int q), none, none, none, none, none, none]) htr (by decide) (Nat.le_of_ble_eq_true rfl) rfl (fun X hO hE hN hRm hL hNm => ?_)
  have hO : zOk G X RX0 cX0_lockBy 3 := hO
  refine zr_iload_2 hO dX0_lockBy_0 ?_
  refine zr_if_lt (tgt := 23) hO dX0_lockBy_1 (by decide) (fun c1 => ?_) (fun c1 => ?_)
  · exact zr_return hO hE dX0_lockBy_23 (zpl_v (by first | ((simp only [cF_lockBy, if_pos c1]) <;> rfl) | contradiction))
  · refine zr_iload_2 hO dX0_lockBy_4 ?_
    refine zr_bipush (v := 6) hO dX0_lockBy_5 (by decide) ?_
    refine zr_icmp_ge (tgt := 23) hO dX0_lockBy_7 (by decide) (fun c7 => ?_) (fun c7 => ?_)
    · exact zr_return hO hE dX0_lockBy_23 (zpl_v (by first | ((simp only [cF_lockBy, if_neg c1, if_neg c7]) <;> rfl) | contradiction))
    · refine zr_aload_0 hO dX0_lockBy_10 ?_
      refine zr_getfr (c := 0) hO (by decide) (by decide) zf_X0_35 (zC_0 hM) rfl rfl dX0_lockBy_11 ?_
      refine zr_iload_2 hO dX0_lockBy_14 ?_
      refine zg_iald hO (zC_10 hM) (by decide) (by first | assumption | exact zin_c (by assumption) (by assumption) rfl) dX0_lockBy_15 ?_
      refine zr_aload_1 hO dX0_lockBy_16 ?_
      refine zg_getfi (c := 4) hO (zC_t hM hi) (by have := hi; unfold ztk; omega) (by decide) (by decide) zf_X0_85 rfl dX0_lockBy_17 ?_
      refine zr_icmp_ne (tgt := 24) hO dX0_lockBy_20 (by decide) (fun c20 => ?_) (fun c20 => ?_)
      · refine zr_aload_0 hO dX0_lockBy_24 ?_
        refine zr_getfr (c := 0) hO (by decide) (by decide) zf_X0_35 (zC_0 hM) rfl rfl dX0_lockBy_25 ?_
        refine zr_iload_2 hO dX0_lockBy_28 ?_
        refine zg_iald hO (zC_10 hM) (by decide) (by first | assumption | exact zin_c (by assumption) (by assumption) rfl) dX0_lockBy_29 ?_
        refine zr_iconst (v := (-1)) hO dX0_lockBy_30 (by decide) ?_
        refine zr_icmp_ne (tgt := 47) hO dX0_lockBy_31 (by decide) (fun c31 => ?_) (fun c31 => ?_)
        · refine zr_aload_0 hO dX0_lockBy_47 ?_
          refine zr_aload_1 hO dX0_lockBy_48 ?_
          refine zr_iconst (v := 4) hO dX0_lockBy_49 (by decide) ?_
          refine zr_iload_2 hO dX0_lockBy_50 ?_
          refine zr_V3 (D := d) hO hRm hL (by omega) (by decide) (c := 0) (by decide) (zC_0 hM) rfl rfl (e_X0_waitFor (d := d - 1) htr hM (by omega) hi) zl_X0_262 zi_X0_waitFor zs_X0_waitFor zc_X0_waitFor zn_X0 zd_X0_waitFor (Nat.le_of_ble_eq_true rfl) dX0_lockBy_51 (by omega) (by omega) ?_
          exact zr_return hO hE dX0_lockBy_54 (zpl_v (by first | ((simp only [cF_lockBy, if_neg c1, if_pos c7, if_neg c20, if_neg c31]) <;> rfl) | contradiction))
        · refine zr_aload_0 hO dX0_lockBy_34 ?_
          refine zr_getfr (c := 0) hO (by decide) (by decide) zf_X0_35 (zC_0 hM) rfl rfl dX0_lockBy_35 ?_
          refine zr_iload_2 hO dX0_lockBy_38 ?_
          refine zr_aload_1 hO dX0_lockBy_39 ?_
          refine zg_getfi (c := 4) hO (zC_t hM hi) (by have := hi; unfold ztk; omega) (by decide) (by decide) zf_X0_85 rfl dX0_lockBy_40 ?_
          refine zg_iast hO (zC_10 hM) (by decide) (by first | assumption | exact zin_c (by assumption) (by assumption) rfl) dX0_lockBy_43 ?_
          refine zr_goto (tgt := 54) hO dX0_lockBy_44 (by decide) ?_
          refine zV_pc (pc' := 54) rfl ?_
          exact zr_return hO hE dX0_lockBy_54 (zpl_v (by first | ((simp only [cF_lockBy, if_neg c1, if_pos c7, if_neg c20, if_pos c31]) <;> rfl) | contradiction))
      · exact zr_return hO hE dX0_lockBy_23 (zpl_v (by first | ((simp only [cF_lockBy, if_neg c1, if_pos c7, if_pos c20]) <;> rfl) | contradiction))
set_option maxRecDepth 100000 in
set_option maxHeartbeats 4000000 in
theorem e_X0_awaitBy {l : Launch} {G : zGm} {d n o : Nat} {ly : zLy} {τ : zTu} {σ M : zSg} {i : Nat} {q : Int32} (htr : l.stackTraces = false) (hM : zC ly o) (hd : 2 ≤ d) (hi : i < 16) : zEv l G d 0 0 (yX0_awaitBy, cX0_awaitBy, 3, none) [.ref o, .ref (o + ztk i), .int q] (fun x => n ≤ x) ly τ (zwr σ o 95 M) (zPl n ly τ (zwr σ o 95 (cF_awaitBy M i q)) none) := by
  refine zEv_of (ls := [some (.ref o), some (.ref (o + ztk i)), some (.int q), none, none, none, none, none, none]) htr (by decide) (Nat.le_of_ble_eq_true rfl) rfl (fun X hO hE hN hRm hL hNm => ?_)
  have hO : zOk G X RX0 cX0_awaitBy 3 := hO
  refine zr_iload_2 hO dX0_awaitBy_0 ?_
  refine zr_if_lt (tgt := 10) hO dX0_awaitBy_1 (by decide) (fun c1 => ?_) (fun c1 => ?_)
  · exact zr_return hO hE dX0_awaitBy_10 (zpl_v (by first | ((simp only [cF_awaitBy, if_pos c1]) <;> rfl) | contradiction))
  · refine zr_iload_2 hO dX0_awaitBy_4 ?_
    refine zr_bipush (v := 6) hO dX0_awaitBy_5 (by decide) ?_
    refine zr_icmp_lt (tgt := 11) hO dX0_awaitBy_7 (by decide) (fun c7 => ?_) (fun c7 => ?_)
    · refine zr_aload_0 hO dX0_awaitBy_11 ?_
      refine zr_getfr (c := 0) hO (by decide) (by decide) zf_X0_38 (zC_0 hM) rfl rfl dX0_awaitBy_12 ?_
      refine zr_iload_2 hO dX0_awaitBy_15 ?_
      refine zg_iald hO (zC_11 hM) (by decide) (by first | assumption | exact zin_c (by assumption) (by assumption) rfl) dX0_awaitBy_16 ?_
      refine zr_if_le (tgt := 33) hO dX0_awaitBy_17 (by decide) (fun c17 => ?_) (fun c17 => ?_)
      · refine zr_aload_0 hO dX0_awaitBy_33 ?_
        refine zr_aload_1 hO dX0_awaitBy_34 ?_
        refine zr_iconst (v := 5) hO dX0_awaitBy_35 (by decide) ?_
        refine zr_iload_2 hO dX0_awaitBy_36 ?_
        refine zr_V3 (D := d) hO hRm hL (by omega) (by decide) (c := 0) (by decide) (zC_0 hM) rfl rfl (e_X0_waitFor (d := d - 1) htr hM (by omega) hi) zl_X0_262 zi_X0_waitFor zs_X0_waitFor zc_X0_waitFor zn_X0 zd_X0_waitFor (Nat.le_of_ble_eq_true rfl) dX0_awaitBy_37 (by omega) (by omega) ?_
        exact zr_return hO hE dX0_awaitBy_40 (zpl_v (by first | ((simp only [cF_awaitBy, if_neg c1, if_pos c7, if_neg c17]) <;> rfl) | contradiction))
      · refine zr_aload_0 hO dX0_awaitBy_20 ?_
        refine zr_getfr (c := 0) hO (by decide) (by decide) zf_X0_38 (zC_0 hM) rfl rfl dX0_awaitBy_21 ?_
        refine zr_iload_2 hO dX0_awaitBy_24 ?_
        refine zr_dup2 hO dX0_awaitBy_25 rfl rfl ?_
        refine zg_iald hO (zC_11 hM) (by decide) (by first | assumption | exact zin_c (by assumption) (by assumption) rfl) dX0_awaitBy_26 ?_
        refine zr_iconst (v := 1) hO dX0_awaitBy_27 (by decide) ?_
        refine zr_isub hO dX0_awaitBy_28 ?_
        refine zV_pc (pc' := 29) rfl ?_
        refine zg_iast hO (zC_11 hM) (by decide) (by first | assumption | exact zin_c (by assumption) (by assumption) rfl) dX0_awaitBy_29 ?_
        refine zr_goto (tgt := 40) hO dX0_awaitBy_30 (by decide) ?_
        exact zr_return hO hE dX0_awaitBy_40 (zpl_v (by first | ((simp only [cF_awaitBy, if_neg c1, if_pos c7, if_pos c17]) <;> rfl) | contradiction))
    · exact zr_return hO hE dX0_awaitBy_10 (zpl_v (by first | ((simp only [cF_awaitBy, if_neg c1, if_neg c7]) <;> rfl) | contradiction))
set_option maxRecDepth 100000 in
set_option maxHeartbeats 4000000 in
theorem e_X0_takeOfGroup {l : Launch} {G : zGm} {d n o : Nat} {ly : zLy} {τ : zTu} {σ M : zSg} {g : Int32} (htr : l.stackTraces = false) (hM : zC ly o) (hd : 0 ≤ d)  : zEv l G d 0 0 (yX0_takeOfGroup, cX0_takeOfGroup, 3, some .boolean) [.ref o, .int g] (fun x => n ≤ x) ly τ (zwr σ o 95 M) (zPl n ly τ (zwr σ o 95 (cF_ofGroup M g).1) (some (.int (zb (cF_ofGroup M g).2)))) := by
  refine zEv_of (ls := [some (.ref o), some (.int g), none, none, none, none, none, none, none]) htr (by decide) (Nat.le_of_ble_eq_true rfl) rfl (fun X hO hE hN hRm hL hNm => ?_)
  have hO : zOk G X RX0 cX0_takeOfGroup 3 := hO
  refine zr_iload_1 hO dX0_takeOfGroup_0 ?_
  refine zr_if_lt (tgt := 9) hO dX0_takeOfGroup_1 (by decide) (fun c1 => ?_) (fun c1 => ?_)
  · refine zr_iconst (v := 0) hO dX0_takeOfGroup_9 (by decide) ?_
    exact zr_zreturn hO hE (by decide) dX0_takeOfGroup_10 (zpl_i (by first | ((simp only [cF_ofGroup, if_pos c1]) <;> rfl) | contradiction) (by first | ((simp only [cF_ofGroup, if_pos c1]) <;> rfl) | contradiction))
  · refine zr_iload_1 hO dX0_takeOfGroup_4 ?_
    refine zr_iconst (v := 4) hO dX0_takeOfGroup_5 (by decide) ?_
    refine zr_icmp_lt (tgt := 11) hO dX0_takeOfGroup_6 (by decide) (fun c6 => ?_) (fun c6 => ?_)
    · refine zr_aload_0 hO dX0_takeOfGroup_11 ?_
      refine zr_getfr (c := 0) hO (by decide) (by decide) zf_X0_12 (zC_0 hM) rfl rfl dX0_takeOfGroup_12 ?_
      refine zr_getfr (c := 2) hO (by decide) (by decide) zf_X0_244 (zC_1 hM) rfl rfl dX0_takeOfGroup_15 ?_
      refine zr_iload_1 hO dX0_takeOfGroup_18 ?_
      refine zg_iald hO (zC_2 hM) (by decide) (by first | assumption | exact zin_c (by assumption) (by assumption) rfl) dX0_takeOfGroup_19 ?_
      refine zr_istore_2 hO dX0_takeOfGroup_20 (by decide) rfl ?_
      refine zr_iload_2 hO dX0_takeOfGroup_21 ?_
      refine zV_pc (pc' := 22) rfl ?_
      refine zr_if_eq (tgt := 44) hO dX0_takeOfGroup_22 (by decide) (fun c22 => ?_) (fun c22 => ?_)
      · refine zr_aload_0 hO dX0_takeOfGroup_44 ?_
        refine zr_getfr (c := 0) hO (by decide) (by decide) zf_X0_47 (zC_0 hM) rfl rfl dX0_takeOfGroup_45 ?_
        refine zr_iload_1 hO dX0_takeOfGroup_48 ?_
        refine zr_dup2 hO dX0_takeOfGroup_49 rfl rfl ?_
        refine zg_iald hO (zC_14 hM) (by decide) (by first | assumption | exact zin_c (by assumption) (by assumption) rfl) dX0_takeOfGroup_50 ?_
        refine zr_iconst (v := 1) hO dX0_takeOfGroup_51 (by decide) ?_
        refine zr_iadd hO dX0_takeOfGroup_52 ?_
        refine zV_pc (pc' := 53) rfl ?_
        refine zg_iast hO (zC_14 hM) (by decide) (by first | assumption | exact zin_c (by assumption) (by assumption) rfl) dX0_takeOfGroup_53 ?_
        refine zr_iconst (v := 1) hO dX0_takeOfGroup_54 (by decide) ?_
        exact zr_zreturn hO hE (by decide) dX0_takeOfGroup_55 (zpl_i (by first | ((simp only [cF_ofGroup, if_neg c1, if_pos c6, if_pos c22]) <;> rfl) | contradiction) (by first | ((simp only [cF_ofGroup, if_neg c1, if_pos c6, if_pos c22]) <;> rfl) | contradiction))
      · refine zr_aload_0 hO dX0_takeOfGroup_25 ?_
        refine zr_getfr (c := 0) hO (by decide) (by decide) zf_X0_31 (zC_0 hM) rfl rfl dX0_takeOfGroup_26 ?_
        refine zr_iload_1 hO dX0_takeOfGroup_29 ?_
        refine zg_iald hO (zC_9 hM) (by decide) (by first | assumption | exact zin_c (by assumption) (by assumption) rfl) dX0_takeOfGroup_30 ?_
        refine zr_aload_0 hO dX0_takeOfGroup_31 ?_
        refine zr_getfr (c := 0) hO (by decide) (by decide) zf_X0_47 (zC_0 hM) rfl rfl dX0_takeOfGroup_32 ?_
        refine zr_iload_1 hO dX0_takeOfGroup_35 ?_
        refine zV_pc (pc' := 36) rfl ?_
        refine zg_iald hO (zC_14 hM) (by decide) (by first | assumption | exact zin_c (by assumption) (by assumption) rfl) dX0_takeOfGroup_36 ?_
        refine zr_iadd hO dX0_takeOfGroup_37 ?_
        refine zr_iload_2 hO dX0_takeOfGroup_38 ?_
        refine zr_icmp_lt (tgt := 44) hO dX0_takeOfGroup_39 (by decide) (fun c39 => ?_) (fun c39 => ?_)
        · refine zr_aload_0 hO dX0_takeOfGroup_44 ?_
          refine zr_getfr (c := 0) hO (by decide) (by decide) zf_X0_47 (zC_0 hM) rfl rfl dX0_takeOfGroup_45 ?_
          refine zr_iload_1 hO dX0_takeOfGroup_48 ?_
          refine zr_dup2 hO dX0_takeOfGroup_49 rfl rfl ?_
          refine zg_iald hO (zC_14 hM) (by decide) (by first | assumption | exact zin_c (by assumption) (by assumption) rfl) dX0_takeOfGroup_50 ?_
          refine zr_iconst (v := 1) hO dX0_takeOfGroup_51 (by decide) ?_
          refine zr_iadd hO dX0_takeOfGroup_52 ?_
          refine zV_pc (pc' := 53) rfl ?_
          refine zg_iast hO (zC_14 hM) (by decide) (by first | assumption | exact zin_c (by assumption) (by assumption) rfl) dX0_takeOfGroup_53 ?_
          refine zr_iconst (v := 1) hO dX0_takeOfGroup_54 (by decide) ?_
          exact zr_zreturn hO hE (by decide) dX0_takeOfGroup_55 (zpl_i (by first | ((simp only [cF_ofGroup, if_neg c1, if_pos c6, if_neg c22, if_pos c39]) <;> rfl) | contradiction) (by first | ((simp only [cF_ofGroup, if_neg c1, if_pos c6, if_neg c22, if_pos c39]) <;> rfl) | contradiction))
        · refine zr_iconst (v := 0) hO dX0_takeOfGroup_42 (by decide) ?_
          exact zr_zreturn hO hE (by decide) dX0_takeOfGroup_43 (zpl_i (by first | ((simp only [cF_ofGroup, if_neg c1, if_pos c6, if_neg c22, if_neg c39]) <;> rfl) | contradiction) (by first | ((simp only [cF_ofGroup, if_neg c1, if_pos c6, if_neg c22, if_neg c39]) <;> rfl) | contradiction))
    · refine zr_iconst (v := 0) hO dX0_takeOfGroup_9 (by decide) ?_
      exact zr_zreturn hO hE (by decide) dX0_takeOfGroup_10 (zpl_i (by first | ((simp only [cF_ofGroup, if_neg c1, if_neg c6]) <;> rfl) | contradiction) (by first | ((simp only [cF_ofGroup, if_neg c1, if_neg c6]) <;> rfl) | contradiction))
set_option maxRecDepth 100000 in
set_option maxHeartbeats 4000000 in
theorem e_X0_runTick {l : Launch} {G : zGm} {d n o : Nat} {ly : zLy} {τ : zTu} {σ M : zSg} {i : Nat}  (htr : l.stackTraces = false) (hM : zC ly o) (hd : 2 ≤ d) (hi : i < 16) : zEv l G d 0 0 (yX0_runTick, cX0_runTick, 2, none) [.ref o, .ref (o + ztk i)] (fun x => n ≤ x) ly τ (zwr σ o 95 M) (zPl n ly τ (zwr σ o 95 (cF_runTick M i)) none) := by
  refine zEv_of (ls := [some (.ref o), some (.ref (o + ztk i)), none, none, none, none, none, none, none]) htr (by decide) (Nat.le_of_ble_eq_true rfl) rfl (fun X hO hE hN hRm hL hNm => ?_)
  have hO : zOk G X RX0 cX0_runTick 2 := hO
  refine zr_aload_1 hO dX0_runTick_0 ?_
  refine zg_getfi (c := 4) hO (zC_t hM hi) (by have := hi; unfold ztk; omega) (by decide) (by decide) zf_X0_234 rfl dX0_runTick_1 ?_
  refine zr_if_lt (tgt := 28) hO dX0_runTick_4 (by decide) (fun c4 => ?_) (fun c4 => ?_)
  · refine zr_aload_1 hO dX0_runTick_28 ?_
    refine zr_getfr (c := 4) hO (by decide) (by decide) zf_X0_135 (zC_t hM hi) rfl rfl dX0_runTick_29 ?_
    refine zr_aload_0 hO dX0_runTick_32 ?_
    refine zg_getfi0 (c := 0) hO (zC_0 hM) (by decide) (by decide) (by decide) zf_X0_69 rfl dX0_runTick_33 ?_
    refine zr_V1 (D := d) hO hRm hL (by omega) (by decide) (c := 3) (by decide) (zC_y hM hi) rfl rfl (e_X3_countRun (d := d - 1) htr hM (by omega) hi) zl_X0_275 zi_X3_countRun zs_X3_countRun zc_X3_countRun zn_X3 zd_X3_countRun (Nat.le_of_ble_eq_true rfl) dX0_runTick_36 (by omega) (by omega) ?_
    refine zr_aload_1 hO dX0_runTick_39 ?_
    refine zr_dup hO dX0_runTick_40 rfl ?_
    refine zV_pc (pc' := 41) rfl ?_
    refine zg_getfi (c := 4) hO (zC_t hM hi) (by have := hi; unfold ztk; omega) (by decide) (by decide) zf_X0_211 rfl dX0_runTick_41 ?_
    refine zr_iconst (v := 1) hO dX0_runTick_44 (by decide) ?_
    refine zr_iadd hO dX0_runTick_45 ?_
    refine zg_putfi (c := 4) hO (zC_t hM hi) (by have := hi; unfold ztk; omega) (by decide) (by decide) zf_X0_211 rfl rfl dX0_runTick_46 ?_
    refine zr_aload_0 hO dX0_runTick_49 ?_
    refine zr_getfr (c := 0) hO (by decide) (by decide) zf_X0_12 (zC_0 hM) rfl rfl dX0_runTick_50 ?_
    refine zg_getfi (c := 2) hO (zC_1 hM) (by decide) (by decide) (by decide) zf_X0_107 rfl dX0_runTick_53 ?_
    refine zV_pc (pc' := 56) rfl ?_
    refine zr_iconst (v := 2) hO dX0_runTick_56 (by decide) ?_
    refine zr_icmp_ne (tgt := 64) hO dX0_runTick_57 (by decide) (fun c57 => ?_) (fun c57 => ?_)
    · refine zr_aload_1 hO dX0_runTick_64 ?_
      refine zr_V0 (D := d) hO hRm hL (by omega) (by decide) (c := 4) (by decide) (zC_t hM hi) rfl rfl (e_X4_countTickOfStep (d := d - 1) htr hM (by omega) hi) zl_X0_281 zi_X4_countTickOfStep zs_X4_countTickOfStep zc_X4_countTickOfStep zn_X4 zd_X4_countTickOfStep (Nat.le_of_ble_eq_true rfl) dX0_runTick_65 (by omega) (by omega) ?_
      exact zr_return hO hE dX0_runTick_68 (zpl_v (by first | ((simp only [cF_runTick, if_pos c4, if_neg c57]) <;> rfl) | contradiction))
    · refine zr_aload_1 hO dX0_runTick_60 ?_
      refine zr_V0 (D := d) hO hRm hL (by omega) (by decide) (c := 4) (by decide) (zC_t hM hi) rfl rfl (e_X4_addTime (d := d - 1) htr hM (by omega) hi) zl_X0_278 zi_X4_addTime zs_X4_addTime zc_X4_addTime zn_X4 zd_X4_addTime (Nat.le_of_ble_eq_true rfl) dX0_runTick_61 (by omega) (by omega) ?_
      refine zr_aload_1 hO dX0_runTick_64 ?_
      refine zr_V0 (D := d) hO hRm hL (by omega) (by decide) (c := 4) (by decide) (zC_t hM hi) rfl rfl (e_X4_countTickOfStep (d := d - 1) htr hM (by omega) hi) zl_X0_281 zi_X4_countTickOfStep zs_X4_countTickOfStep zc_X4_countTickOfStep zn_X4 zd_X4_countTickOfStep (Nat.le_of_ble_eq_true rfl) dX0_runTick_65 (by omega) (by omega) ?_
      exact zr_return hO hE dX0_runTick_68 (zpl_v (by first | ((simp only [cF_runTick, if_pos c4, if_pos c57]) <;> rfl) | contradiction))
  · refine zr_aload_1 hO dX0_runTick_7 ?_
    refine zg_getfi (c := 4) hO (zC_t hM hi) (by have := hi; unfold ztk; omega) (by decide) (by decide) zf_X0_234 rfl dX0_runTick_8 ?_
    refine zr_iconst (v := 4) hO dX0_runTick_11 (by decide) ?_
    refine zr_icmp_ge (tgt := 28) hO dX0_runTick_12 (by decide) (fun c12 => ?_) (fun c12 => ?_)
    · refine zr_aload_1 hO dX0_runTick_28 ?_
      refine zr_getfr (c := 4) hO (by decide) (by decide) zf_X0_135 (zC_t hM hi) rfl rfl dX0_runTick_29 ?_
      refine zr_aload_0 hO dX0_runTick_32 ?_
      refine zg_getfi0 (c := 0) hO (zC_0 hM) (by decide) (by decide) (by decide) zf_X0_69 rfl dX0_runTick_33 ?_
      refine zr_V1 (D := d) hO hRm hL (by omega) (by decide) (c := 3) (by decide) (zC_y hM hi) rfl rfl (e_X3_countRun (d := d - 1) htr hM (by omega) hi) zl_X0_275 zi_X3_countRun zs_X3_countRun zc_X3_countRun zn_X3 zd_X3_countRun (Nat.le_of_ble_eq_true rfl) dX0_runTick_36 (by omega) (by omega) ?_
      refine zr_aload_1 hO dX0_runTick_39 ?_
      refine zr_dup hO dX0_runTick_40 rfl ?_
      refine zV_pc (pc' := 41) rfl ?_
      refine zg_getfi (c := 4) hO (zC_t hM hi) (by have := hi; unfold ztk; omega) (by decide) (by decide) zf_X0_211 rfl dX0_runTick_41 ?_
      refine zr_iconst (v := 1) hO dX0_runTick_44 (by decide) ?_
      refine zr_iadd hO dX0_runTick_45 ?_
      refine zg_putfi (c := 4) hO (zC_t hM hi) (by have := hi; unfold ztk; omega) (by decide) (by decide) zf_X0_211 rfl rfl dX0_runTick_46 ?_
      refine zr_aload_0 hO dX0_runTick_49 ?_
      refine zr_getfr (c := 0) hO (by decide) (by decide) zf_X0_12 (zC_0 hM) rfl rfl dX0_runTick_50 ?_
      refine zg_getfi (c := 2) hO (zC_1 hM) (by decide) (by decide) (by decide) zf_X0_107 rfl dX0_runTick_53 ?_
      refine zV_pc (pc' := 56) rfl ?_
      refine zr_iconst (v := 2) hO dX0_runTick_56 (by decide) ?_
      refine zr_icmp_ne (tgt := 64) hO dX0_runTick_57 (by decide) (fun c57 => ?_) (fun c57 => ?_)
      · refine zr_aload_1 hO dX0_runTick_64 ?_
        refine zr_V0 (D := d) hO hRm hL (by omega) (by decide) (c := 4) (by decide) (zC_t hM hi) rfl rfl (e_X4_countTickOfStep (d := d - 1) htr hM (by omega) hi) zl_X0_281 zi_X4_countTickOfStep zs_X4_countTickOfStep zc_X4_countTickOfStep zn_X4 zd_X4_countTickOfStep (Nat.le_of_ble_eq_true rfl) dX0_runTick_65 (by omega) (by omega) ?_
        exact zr_return hO hE dX0_runTick_68 (zpl_v (by first | ((simp only [cF_runTick, if_neg c4, if_neg c12, if_neg c57]) <;> rfl) | contradiction))
      · refine zr_aload_1 hO dX0_runTick_60 ?_
        refine zr_V0 (D := d) hO hRm hL (by omega) (by decide) (c := 4) (by decide) (zC_t hM hi) rfl rfl (e_X4_addTime (d := d - 1) htr hM (by omega) hi) zl_X0_278 zi_X4_addTime zs_X4_addTime zc_X4_addTime zn_X4 zd_X4_addTime (Nat.le_of_ble_eq_true rfl) dX0_runTick_61 (by omega) (by omega) ?_
        refine zr_aload_1 hO dX0_runTick_64 ?_
        refine zr_V0 (D := d) hO hRm hL (by omega) (by decide) (c := 4) (by decide) (zC_t hM hi) rfl rfl (e_X4_countTickOfStep (d := d - 1) htr hM (by omega) hi) zl_X0_281 zi_X4_countTickOfStep zs_X4_countTickOfStep zc_X4_countTickOfStep zn_X4 zd_X4_countTickOfStep (Nat.le_of_ble_eq_true rfl) dX0_runTick_65 (by omega) (by omega) ?_
        exact zr_return hO hE dX0_runTick_68 (zpl_v (by first | ((simp only [cF_runTick, if_neg c4, if_neg c12, if_pos c57]) <;> rfl) | contradiction))
    · refine zr_aload_0 hO dX0_runTick_15 ?_
      refine zr_getfr (c := 0) hO (by decide) (by decide) zf_X0_31 (zC_0 hM) rfl rfl dX0_runTick_16 ?_
      refine zr_aload_1 hO dX0_runTick_19 ?_
      refine zg_getfi (c := 4) hO (zC_t hM hi) (by have := hi; unfold ztk; omega) (by decide) (by decide) zf_X0_234 rfl dX0_runTick_20 ?_
      refine zr_dup2 hO dX0_runTick_23 rfl rfl ?_
      refine zg_iald hO (zC_9 hM) (by decide) (by exact zin_c c4 c12 rfl) dX0_runTick_24 ?_
      refine zr_iconst (v := 1) hO dX0_runTick_25 (by decide) ?_
      refine zV_pc (pc' := 26) rfl ?_
      refine zr_iadd hO dX0_runTick_26 ?_
      refine zg_iast hO (zC_9 hM) (by decide) (by exact zin_c c4 c12 rfl) dX0_runTick_27 ?_
      refine zr_aload_1 hO dX0_runTick_28 ?_
      refine zr_getfr (c := 4) hO (by decide) (by decide) zf_X0_135 (zC_t hM hi) rfl rfl dX0_runTick_29 ?_
      refine zr_aload_0 hO dX0_runTick_32 ?_
      refine zg_getfi0 (c := 0) hO (zC_0 hM) (by decide) (by decide) (by decide) zf_X0_69 rfl dX0_runTick_33 ?_
      refine zr_V1 (D := d) hO hRm hL (by omega) (by decide) (c := 3) (by decide) (zC_y hM hi) rfl rfl (e_X3_countRun (d := d - 1) htr hM (by omega) hi) zl_X0_275 zi_X3_countRun zs_X3_countRun zc_X3_countRun zn_X3 zd_X3_countRun (Nat.le_of_ble_eq_true rfl) dX0_runTick_36 (by omega) (by omega) ?_
      refine zV_pc (pc' := 39) rfl ?_
      refine zr_aload_1 hO dX0_runTick_39 ?_
      refine zr_dup hO dX0_runTick_40 rfl ?_
      refine zg_getfi (c := 4) hO (zC_t hM hi) (by have := hi; unfold ztk; omega) (by decide) (by decide) zf_X0_211 rfl dX0_runTick_41 ?_
      refine zr_iconst (v := 1) hO dX0_runTick_44 (by decide) ?_
      refine zr_iadd hO dX0_runTick_45 ?_
      refine zg_putfi (c := 4) hO (zC_t hM hi) (by have := hi; unfold ztk; omega) (by decide) (by decide) zf_X0_211 rfl rfl dX0_runTick_46 ?_
      refine zr_aload_0 hO dX0_runTick_49 ?_
      refine zV_pc (pc' := 50) rfl ?_
      refine zr_getfr (c := 0) hO (by decide) (by decide) zf_X0_12 (zC_0 hM) rfl rfl dX0_runTick_50 ?_
      refine zg_getfi (c := 2) hO (zC_1 hM) (by decide) (by decide) (by decide) zf_X0_107 rfl dX0_runTick_53 ?_
      refine zr_iconst (v := 2) hO dX0_runTick_56 (by decide) ?_
      refine zr_icmp_ne (tgt := 64) hO dX0_runTick_57 (by decide) (fun c57 => ?_) (fun c57 => ?_)
      · refine zr_aload_1 hO dX0_runTick_64 ?_
        refine zr_V0 (D := d) hO hRm hL (by omega) (by decide) (c := 4) (by decide) (zC_t hM hi) rfl rfl (e_X4_countTickOfStep (d := d - 1) htr hM (by omega) hi) zl_X0_281 zi_X4_countTickOfStep zs_X4_countTickOfStep zc_X4_countTickOfStep zn_X4 zd_X4_countTickOfStep (Nat.le_of_ble_eq_true rfl) dX0_runTick_65 (by omega) (by omega) ?_
        exact zr_return hO hE dX0_runTick_68 (zpl_v (by first | ((simp only [cF_runTick, if_neg c4, if_pos c12, if_neg c57]) <;> rfl) | contradiction))
      · refine zr_aload_1 hO dX0_runTick_60 ?_
        refine zr_V0 (D := d) hO hRm hL (by omega) (by decide) (c := 4) (by decide) (zC_t hM hi) rfl rfl (e_X4_addTime (d := d - 1) htr hM (by omega) hi) zl_X0_278 zi_X4_addTime zs_X4_addTime zc_X4_addTime zn_X4 zd_X4_addTime (Nat.le_of_ble_eq_true rfl) dX0_runTick_61 (by omega) (by omega) ?_
        refine zr_aload_1 hO dX0_runTick_64 ?_
        refine zr_V0 (D := d) hO hRm hL (by omega) (by decide) (c := 4) (by decide) (zC_t hM hi) rfl rfl (e_X4_countTickOfStep (d := d - 1) htr hM (by omega) hi) zl_X0_281 zi_X4_countTickOfStep zs_X4_countTickOfStep zc_X4_countTickOfStep zn_X4 zd_X4_countTickOfStep (Nat.le_of_ble_eq_true rfl) dX0_runTick_65 (by omega) (by omega) ?_
        exact zr_return hO hE dX0_runTick_68 (zpl_v (by first | ((simp only [cF_runTick, if_neg c4, if_pos c12, if_pos c57]) <;> rfl) | contradiction))
set_option maxRecDepth 100000 in
set_option maxHeartbeats 4000000 in
theorem e_X0_countWaits {l : Launch} {G : zGm} {d n o : Nat} {ly : zLy} {τ : zTu} {σ M : zSg}  (htr : l.stackTraces = false) (hM : zC ly o) (hd : 0 ≤ d)  : zEv l G d 0 0 (yX0_countWaits, cX0_countWaits, 5, none) [.ref o] (fun x => n ≤ x) ly τ (zwr σ o 95 M) (zPl n ly τ (zwr σ o 95 (cF_cw M)) none) := by
  refine zEv_of (ls := [some (.ref o), none, none, none, none, none, none, none, none]) htr (by decide) (Nat.le_of_ble_eq_true rfl) rfl (fun X hO hE hN hRm hL hNm => ?_)
  have hO : zOk G X RX0 cX0_countWaits 5 := hO
  refine zr_aload_0 hO dX0_countWaits_0 ?_
  refine zr_getfr (c := 0) hO (by decide) (by decide) zf_X0_27 (zC_0 hM) rfl rfl dX0_countWaits_1 ?_
  refine zr_astore_1 hO dX0_countWaits_4 (by decide) rfl ?_
  refine zr_aload_1 hO dX0_countWaits_5 ?_
  refine zr_alenT (v := 16) hO (zC_8 hM) rfl dX0_countWaits_6 ?_
  refine zr_istore_2 hO dX0_countWaits_7 (by decide) rfl ?_
  refine zr_iconst (v := 0) hO dX0_countWaits_8 (by decide) ?_
  refine zV_pc (pc' := 9) rfl ?_
  refine zr_istore_3 hO dX0_countWaits_9 (by decide) rfl ?_
  refine z_for (P := fun k s => zV G X 5 0 0 (fun x => n ≤ x) ly τ (zwr σ o 95 s) 10 [some (.ref o), some (.ref (o + 8)), some (.int 16), some (.int (nI k)), none, none, none, none, none] []) 16 cB_cw (fun _ _ => True) M trivial (fun _ _ _ _ => trivial) ?_ ?_
  · intro k s hk hIk ih
    refine zr_iload_3 hO dX0_countWaits_10 ?_
    refine zr_iload_2 hO dX0_countWaits_11 ?_
    refine zr_icmp_ge (tgt := 72) hO dX0_countWaits_12 (by decide) (fun c12 => ?_) (fun c12 => ?_)
    · exact absurd (zlt_T (x := 16) (by decide) hk) c12
    · refine zr_aload_1 hO dX0_countWaits_15 ?_
      refine zr_iload_3 hO dX0_countWaits_16 ?_
      refine zr_aaldTN hO (zC_8 hM) hk dX0_countWaits_17 ?_
      refine zr_astore_4 hO dX0_countWaits_18 (by decide) rfl ?_
      refine zr_aload_4 hO dX0_countWaits_20 ?_
      refine zg_getfi (c := 4) hO (zC_t hM hk) (by have := hk; unfold ztk; omega) (by decide) (by decide) zf_X0_82 rfl dX0_countWaits_22 ?_
      refine zr_iconst (v := 1) hO dX0_countWaits_25 (by decide) ?_
      refine zV_pc (pc' := 26) rfl ?_
      refine zr_icmp_ne (tgt := 43) hO dX0_countWaits_26 (by decide) (fun c26 => ?_) (fun c26 => ?_)
      · refine zr_aload_4 hO dX0_countWaits_43 ?_
        refine zg_getfi (c := 4) hO (zC_t hM hk) (by have := hk; unfold ztk; omega) (by decide) (by decide) zf_X0_82 rfl dX0_countWaits_45 ?_
        refine zr_iconst (v := 4) hO dX0_countWaits_48 (by decide) ?_
        refine zr_icmp_ne (tgt := 66) hO dX0_countWaits_49 (by decide) (fun c49 => ?_) (fun c49 => ?_)
        · refine zr_iinc_3 (v := 1) hO dX0_countWaits_66 (by decide) (by decide) rfl ?_
          refine zr_goto (tgt := 10) hO dX0_countWaits_69 (by decide) ?_
          refine zV_d4 ?_
          rw [nI_1]
          simp only [cB_cw, if_pos c12, if_neg c26, if_neg c49] at ih
          first | exact ih | contradiction
        · refine zr_aload_4 hO dX0_countWaits_52 ?_
          refine zr_getfr (c := 4) hO (by decide) (by decide) zf_X0_135 (zC_t hM hk) rfl rfl dX0_countWaits_54 ?_
          refine zr_dup hO dX0_countWaits_57 rfl ?_
          refine zg_getfi (c := 3) hO (zC_y hM hk) (by have := hk; unfold ztk; omega) (by decide) (by decide) zf_X0_287 rfl dX0_countWaits_58 ?_
          refine zr_iconst (v := 1) hO dX0_countWaits_61 (by decide) ?_
          refine zr_iadd hO dX0_countWaits_62 ?_
          refine zg_putfi (c := 3) hO (zC_y hM hk) (by have := hk; unfold ztk; omega) (by decide) (by decide) zf_X0_287 rfl rfl dX0_countWaits_63 ?_
          refine zV_pc (pc' := 66) rfl ?_
          refine zr_iinc_3 (v := 1) hO dX0_countWaits_66 (by decide) (by decide) rfl ?_
          refine zr_goto (tgt := 10) hO dX0_countWaits_69 (by decide) ?_
          refine zV_d4 ?_
          rw [nI_1]
          simp only [cB_cw, if_pos c12, if_neg c26, if_pos c49] at ih
          first | exact ih | contradiction
      · refine zr_aload_4 hO dX0_countWaits_29 ?_
        refine zr_getfr (c := 4) hO (by decide) (by decide) zf_X0_135 (zC_t hM hk) rfl rfl dX0_countWaits_31 ?_
        refine zr_dup hO dX0_countWaits_34 rfl ?_
        refine zg_getfi (c := 3) hO (zC_y hM hk) (by have := hk; unfold ztk; omega) (by decide) (by decide) zf_X0_284 rfl dX0_countWaits_35 ?_
        refine zr_iconst (v := 1) hO dX0_countWaits_38 (by decide) ?_
        refine zr_iadd hO dX0_countWaits_39 ?_
        refine zg_putfi (c := 3) hO (zC_y hM hk) (by have := hk; unfold ztk; omega) (by decide) (by decide) zf_X0_284 rfl rfl dX0_countWaits_40 ?_
        refine zV_pc (pc' := 43) rfl ?_
        refine zr_aload_4 hO dX0_countWaits_43 ?_
        refine zg_getfi (c := 4) hO (zC_t hM hk) (by have := hk; unfold ztk; omega) (by decide) (by decide) zf_X0_82 rfl dX0_countWaits_45 ?_
        refine zr_iconst (v := 4) hO dX0_countWaits_48 (by decide) ?_
        refine zr_icmp_ne (tgt := 66) hO dX0_countWaits_49 (by decide) (fun c49 => ?_) (fun c49 => ?_)
        · refine zr_iinc_3 (v := 1) hO dX0_countWaits_66 (by decide) (by decide) rfl ?_
          refine zr_goto (tgt := 10) hO dX0_countWaits_69 (by decide) ?_
          refine zV_d4 ?_
          rw [nI_1]
          simp only [cB_cw, if_pos c12, if_pos c26, if_neg c49] at ih
          first | exact ih | contradiction
        · refine zr_aload_4 hO dX0_countWaits_52 ?_
          refine zr_getfr (c := 4) hO (by decide) (by decide) zf_X0_135 (zC_t hM hk) rfl rfl dX0_countWaits_54 ?_
          refine zr_dup hO dX0_countWaits_57 rfl ?_
          refine zg_getfi (c := 3) hO (zC_y hM hk) (by have := hk; unfold ztk; omega) (by decide) (by decide) zf_X0_287 rfl dX0_countWaits_58 ?_
          refine zr_iconst (v := 1) hO dX0_countWaits_61 (by decide) ?_
          refine zr_iadd hO dX0_countWaits_62 ?_
          refine zg_putfi (c := 3) hO (zC_y hM hk) (by have := hk; unfold ztk; omega) (by decide) (by decide) zf_X0_287 rfl rfl dX0_countWaits_63 ?_
          refine zV_pc (pc' := 66) rfl ?_
          refine zr_iinc_3 (v := 1) hO dX0_countWaits_66 (by decide) (by decide) rfl ?_
          refine zr_goto (tgt := 10) hO dX0_countWaits_69 (by decide) ?_
          refine zV_d4 ?_
          rw [nI_1]
          simp only [cB_cw, if_pos c12, if_pos c26, if_pos c49] at ih
          first | exact ih | contradiction
  · intro hIk
    refine zr_iload_3 hO dX0_countWaits_10 ?_
    refine zr_iload_2 hO dX0_countWaits_11 ?_
    refine zr_icmp_ge (tgt := 72) hO dX0_countWaits_12 (by decide) (fun c12 => ?_) (fun c12 => ?_)
    · exact zr_return hO hE dX0_countWaits_72 (zpl_v (by first | ((simp only [cF_cw, if_neg c12]) <;> rfl) | contradiction))
    · exact absurd c12 (zlt_F (x := 16) (by decide))
set_option maxRecDepth 100000 in
set_option maxHeartbeats 4000000 in
theorem e_X0_wakeSleepers {l : Launch} {G : zGm} {d n o : Nat} {ly : zLy} {τ : zTu} {σ M : zSg}  (htr : l.stackTraces = false) (hM : zC ly o) (hd : 2 ≤ d)  : zEv l G d 0 0 (yX0_wakeSleepers, cX0_wakeSleepers, 5, none) [.ref o] (fun x => n ≤ x) ly τ (zwr σ o 95 M) (zPl n ly τ (zwr σ o 95 (cF_wakes M)) none) := by
  refine zEv_of (ls := [some (.ref o), none, none, none, none, none, none, none, none]) htr (by decide) (Nat.le_of_ble_eq_true rfl) rfl (fun X hO hE hN hRm hL hNm => ?_)
  have hO : zOk G X RX0 cX0_wakeSleepers 5 := hO
  refine zr_aload_0 hO dX0_wakeSleepers_0 ?_
  refine zr_getfr (c := 0) hO (by decide) (by decide) zf_X0_27 (zC_0 hM) rfl rfl dX0_wakeSleepers_1 ?_
  refine zr_astore_1 hO dX0_wakeSleepers_4 (by decide) rfl ?_
  refine zr_aload_1 hO dX0_wakeSleepers_5 ?_
  refine zr_alenT (v := 16) hO (zC_8 hM) rfl dX0_wakeSleepers_6 ?_
  refine zr_istore_2 hO dX0_wakeSleepers_7 (by decide) rfl ?_
  refine zr_iconst (v := 0) hO dX0_wakeSleepers_8 (by decide) ?_
  refine zV_pc (pc' := 9) rfl ?_
  refine zr_istore_3 hO dX0_wakeSleepers_9 (by decide) rfl ?_
  refine z_for (P := fun k s => zV G X 5 0 0 (fun x => n ≤ x) ly τ (zwr σ o 95 s) 10 [some (.ref o), some (.ref (o + 8)), some (.int 16), some (.int (nI k)), none, none, none, none, none] []) 16 cB_wk (fun _ _ => True) M trivial (fun _ _ _ _ => trivial) ?_ ?_
  · intro k s hk hIk ih
    refine zr_iload_3 hO dX0_wakeSleepers_10 ?_
    refine zr_iload_2 hO dX0_wakeSleepers_11 ?_
    refine zr_icmp_ge (tgt := 53) hO dX0_wakeSleepers_12 (by decide) (fun c12 => ?_) (fun c12 => ?_)
    · exact absurd (zlt_T (x := 16) (by decide) hk) c12
    · refine zr_aload_1 hO dX0_wakeSleepers_15 ?_
      refine zr_iload_3 hO dX0_wakeSleepers_16 ?_
      refine zr_aaldTN hO (zC_8 hM) hk dX0_wakeSleepers_17 ?_
      refine zr_astore_4 hO dX0_wakeSleepers_18 (by decide) rfl ?_
      refine zr_aload_4 hO dX0_wakeSleepers_20 ?_
      refine zg_getfi (c := 4) hO (zC_t hM hk) (by have := hk; unfold ztk; omega) (by decide) (by decide) zf_X0_82 rfl dX0_wakeSleepers_22 ?_
      refine zr_iconst (v := 3) hO dX0_wakeSleepers_25 (by decide) ?_
      refine zV_pc (pc' := 26) rfl ?_
      refine zr_icmp_ne (tgt := 47) hO dX0_wakeSleepers_26 (by decide) (fun c26 => ?_) (fun c26 => ?_)
      · refine zr_iinc_3 (v := 1) hO dX0_wakeSleepers_47 (by decide) (by decide) rfl ?_
        refine zr_goto (tgt := 10) hO dX0_wakeSleepers_50 (by decide) ?_
        refine zV_d4 ?_
        rw [nI_1]
        simp only [cB_wk, if_pos c12, if_neg c26] at ih
        first | exact ih | contradiction
      · refine zr_aload_4 hO dX0_wakeSleepers_29 ?_
        refine zg_getfi (c := 4) hO (zC_t hM hk) (by have := hk; unfold ztk; omega) (by decide) (by decide) zf_X0_96 rfl dX0_wakeSleepers_31 ?_
        refine zr_aload_0 hO dX0_wakeSleepers_34 ?_
        refine zg_getfi0 (c := 0) hO (zC_0 hM) (by decide) (by decide) (by decide) zf_X0_69 rfl dX0_wakeSleepers_35 ?_
        refine zr_icmp_gt (tgt := 47) hO dX0_wakeSleepers_38 (by decide) (fun c38 => ?_) (fun c38 => ?_)
        · refine zr_iinc_3 (v := 1) hO dX0_wakeSleepers_47 (by decide) (by decide) rfl ?_
          refine zr_goto (tgt := 10) hO dX0_wakeSleepers_50 (by decide) ?_
          refine zV_d4 ?_
          rw [nI_1]
          simp only [cB_wk, if_pos c12, if_pos c26, if_pos c38] at ih
          first | exact ih | contradiction
        · refine zr_aload_0 hO dX0_wakeSleepers_41 ?_
          refine zr_aload_4 hO dX0_wakeSleepers_42 ?_
          refine zr_V1 (D := d) hO hRm hL (by omega) (by decide) (c := 0) (by decide) (zC_0 hM) rfl rfl (e_X0_wake (d := d - 1) htr hM (by omega) hk) zl_X0_157 zi_X0_wake zs_X0_wake zc_X0_wake zn_X0 zd_X0_wake (Nat.le_of_ble_eq_true rfl) dX0_wakeSleepers_44 (by omega) (by omega) ?_
          refine zr_iinc_3 (v := 1) hO dX0_wakeSleepers_47 (by decide) (by decide) rfl ?_
          refine zr_goto (tgt := 10) hO dX0_wakeSleepers_50 (by decide) ?_
          refine zV_d4 ?_
          rw [nI_1]
          simp only [cB_wk, if_pos c12, if_pos c26, if_neg c38] at ih
          first | exact ih | contradiction
  · intro hIk
    refine zr_iload_3 hO dX0_wakeSleepers_10 ?_
    refine zr_iload_2 hO dX0_wakeSleepers_11 ?_
    refine zr_icmp_ge (tgt := 53) hO dX0_wakeSleepers_12 (by decide) (fun c12 => ?_) (fun c12 => ?_)
    · exact zr_return hO hE dX0_wakeSleepers_53 (zpl_v (by first | ((simp only [cF_wakes, if_neg c12]) <;> rfl) | contradiction))
    · exact absurd c12 (zlt_F (x := 16) (by decide))
