set_option maxRecDepth 100000 in
set_option maxHeartbeats 400000 in
theorem e_X6_stateOf_k {l : Launch} {G : zGm} {d n x o q : Nat} {ly : zLy} {τ : zTu} {σ M : zSg} {t : Int32} {i0 : Nat} (htr : l.stackTraces = false) (hX : ly x = (6 + 5, 2, zcr6 o q)) (hM : zC ly o) (hd : 7 ≤ d) (hok : cF_rt M t = some i0) : zEv l G d 0 0 (yX6_stateOf, cX6_stateOf, 2, some .int) [.ref x, .int t] (fun x => n ≤ x) ly τ (zwr σ o 95 M) (zPl n ly τ (zwr σ o 95 (M)) (some (.int (M (ztk i0) 5)))) := by
  refine zEv_of (ls := [some (.ref x), some (.int t), none, none, none, none, none, none, none]) htr (by decide) (Nat.le_of_ble_eq_true rfl) rfl (fun X hO hE hN hRm hL hNm => ?_)
  have hO : zOk G X RX6 cX6_stateOf 2 := hO
  have hi0 : i0 < 16 := cF_rt_lt hok
  refine zr_aload_0 hO dX6_stateOf_0 ?_
  refine zr_iload_1 hO dX6_stateOf_1 ?_
  refine zr_V1 (D := d) hO hRm hL (by omega) (by decide) (c := 6) (by decide) hX rfl rfl (e_X6_requireTask_ok (d := d - 1) htr hX hM (by omega) hok) zl_X6_88 zi_X6_requireTask zs_X6_requireTask zc_X6_requireTask zn_X6 zd_X6_requireTask (Nat.le_of_ble_eq_true rfl) dX6_stateOf_2 (by omega) (by omega) ?_
  refine zg_getfi (c := 4) hO (zC_t hM hi0) (by have := hi0; unfold ztk; omega) (by decide) (by decide) zf_X6_95 rfl dX6_stateOf_5 ?_
  exact zr_ireturn hO hE dX6_stateOf_8 (zpl_i (by first | ((simp only []) <;> rfl) | contradiction) rfl)
set_option maxRecDepth 100000 in
set_option maxHeartbeats 400000 in
theorem e_X6_stepOf_k {l : Launch} {G : zGm} {d n x o q : Nat} {ly : zLy} {τ : zTu} {σ M : zSg} {t : Int32} {i0 : Nat} (htr : l.stackTraces = false) (hX : ly x = (6 + 5, 2, zcr6 o q)) (hM : zC ly o) (hd : 7 ≤ d) (hok : cF_rt M t = some i0) : zEv l G d 0 0 (yX6_stepOf, cX6_stepOf, 3, some .int) [.ref x, .int t] (fun x => n ≤ x) ly τ (zwr σ o 95 M) (zPl n ly τ (zwr σ o 95 (M)) (some (.int (cF_stepOf M i0)))) := by
  refine zEv_of (ls := [some (.ref x), some (.int t), none, none, none, none, none, none, none]) htr (by decide) (Nat.le_of_ble_eq_true rfl) rfl (fun X hO hE hN hRm hL hNm => ?_)
  have hO : zOk G X RX6 cX6_stepOf 3 := hO
  have hi0 : i0 < 16 := cF_rt_lt hok
  refine zr_aload_0 hO dX6_stepOf_0 ?_
  refine zr_iload_1 hO dX6_stepOf_1 ?_
  refine zr_V1 (D := d) hO hRm hL (by omega) (by decide) (c := 6) (by decide) hX rfl rfl (e_X6_requireTask_ok (d := d - 1) htr hX hM (by omega) hok) zl_X6_88 zi_X6_requireTask zs_X6_requireTask zc_X6_requireTask zn_X6 zd_X6_requireTask (Nat.le_of_ble_eq_true rfl) dX6_stepOf_2 (by omega) (by omega) ?_
  refine zr_astore_2 hO dX6_stepOf_5 (by decide) rfl ?_
  refine zr_aload_2 hO dX6_stepOf_6 ?_
  refine zg_getfi (c := 4) hO (zC_t hM hi0) (by have := hi0; unfold ztk; omega) (by decide) (by decide) zf_X6_95 rfl dX6_stepOf_7 ?_
  refine zr_bipush (v := 6) hO dX6_stepOf_10 (by decide) ?_
  refine zr_icmp_ne (tgt := 25) hO dX6_stepOf_12 (by decide) (fun c12 => ?_) (fun c12 => ?_)
  · refine zr_aload_2 hO dX6_stepOf_25 ?_
    refine zg_getfi (c := 4) hO (zC_t hM hi0) (by have := hi0; unfold ztk; omega) (by decide) (by decide) zf_X6_139 rfl dX6_stepOf_26 ?_
    exact zr_ireturn hO hE dX6_stepOf_29 (zpl_i (by first | ((simp only [cF_stepOf, if_neg c12]) <;> rfl) | contradiction) rfl)
  · refine zr_aload_2 hO dX6_stepOf_15 ?_
    refine zr_getfr (c := 4) hO (by decide) (by decide) zf_X6_79 (zC_t hM hi0) rfl rfl dX6_stepOf_16 ?_
    refine zg_getfi (c := 1) hO (zC_p hM hi0) (by have := hi0; unfold ztk; omega) (by decide) (by decide) zf_X6_98 rfl dX6_stepOf_19 ?_
    refine zr_goto (tgt := 29) hO dX6_stepOf_22 (by decide) ?_
    exact zr_ireturn hO hE dX6_stepOf_29 (zpl_i (by first | ((simp only [cF_stepOf, if_pos c12]) <;> rfl) | contradiction) rfl)
set_option maxRecDepth 100000 in
set_option maxHeartbeats 400000 in
theorem e_X6_roundsOf_k {l : Launch} {G : zGm} {d n x o q : Nat} {ly : zLy} {τ : zTu} {σ M : zSg} {t : Int32} {i0 : Nat} (htr : l.stackTraces = false) (hX : ly x = (6 + 5, 2, zcr6 o q)) (hM : zC ly o) (hd : 7 ≤ d) (hok : cF_rt M t = some i0) : zEv l G d 0 0 (yX6_roundsOf, cX6_roundsOf, 2, some .int) [.ref x, .int t] (fun x => n ≤ x) ly τ (zwr σ o 95 M) (zPl n ly τ (zwr σ o 95 (M)) (some (.int (M (ztk i0) 8)))) := by
  refine zEv_of (ls := [some (.ref x), some (.int t), none, none, none, none, none, none, none]) htr (by decide) (Nat.le_of_ble_eq_true rfl) rfl (fun X hO hE hN hRm hL hNm => ?_)
  have hO : zOk G X RX6 cX6_roundsOf 2 := hO
  have hi0 : i0 < 16 := cF_rt_lt hok
  refine zr_aload_0 hO dX6_roundsOf_0 ?_
  refine zr_iload_1 hO dX6_roundsOf_1 ?_
  refine zr_V1 (D := d) hO hRm hL (by omega) (by decide) (c := 6) (by decide) hX rfl rfl (e_X6_requireTask_ok (d := d - 1) htr hX hM (by omega) hok) zl_X6_88 zi_X6_requireTask zs_X6_requireTask zc_X6_requireTask zn_X6 zd_X6_requireTask (Nat.le_of_ble_eq_true rfl) dX6_roundsOf_2 (by omega) (by omega) ?_
  refine zg_getfi (c := 4) hO (zC_t hM hi0) (by have := hi0; unfold ztk; omega) (by decide) (by decide) zf_X6_142 rfl dX6_roundsOf_5 ?_
  exact zr_ireturn hO hE dX6_roundsOf_8 (zpl_i (by first | ((simp only []) <;> rfl) | contradiction) rfl)
set_option maxRecDepth 100000 in
set_option maxHeartbeats 400000 in
theorem e_X6_keyOf_k {l : Launch} {G : zGm} {d n x o q : Nat} {ly : zLy} {τ : zTu} {σ M : zSg} {t : Int32} {i0 : Nat} (htr : l.stackTraces = false) (hX : ly x = (6 + 5, 2, zcr6 o q)) (hM : zC ly o) (hd : 7 ≤ d) (hok : cF_rt M t = some i0) : zEv l G d 0 0 (yX6_keyOf, cX6_keyOf, 2, some .int) [.ref x, .int t] (fun x => n ≤ x) ly τ (zwr σ o 95 M) (zPl n ly τ (zwr σ o 95 (M)) (some (.int (cF_key M i0 (M 1 1))))) := by
  refine zEv_of (ls := [some (.ref x), some (.int t), none, none, none, none, none, none, none]) htr (by decide) (Nat.le_of_ble_eq_true rfl) rfl (fun X hO hE hN hRm hL hNm => ?_)
  have hO : zOk G X RX6 cX6_keyOf 2 := hO
  have hi0 : i0 < 16 := cF_rt_lt hok
  refine zr_aload_0 hO dX6_keyOf_0 ?_
  refine zr_iload_1 hO dX6_keyOf_1 ?_
  refine zr_V1 (D := d) hO hRm hL (by omega) (by decide) (c := 6) (by decide) hX rfl rfl (e_X6_requireTask_ok (d := d - 1) htr hX hM (by omega) hok) zl_X6_88 zi_X6_requireTask zs_X6_requireTask zc_X6_requireTask zn_X6 zd_X6_requireTask (Nat.le_of_ble_eq_true rfl) dX6_keyOf_2 (by omega) (by omega) ?_
  refine zr_aload_0 hO dX6_keyOf_5 ?_
  refine zr_getfr (c := 6) hO (by decide) (by decide) zf_X6_10 hX rfl rfl dX6_keyOf_6 ?_
  refine zr_getfr (c := 0) hO (by decide) (by decide) zf_X6_23 (zC_0 hM) rfl rfl dX6_keyOf_9 ?_
  refine zg_getfi (c := 2) hO (zC_1 hM) (by decide) (by decide) (by decide) zf_X6_36 rfl dX6_keyOf_12 ?_
  refine zr_V1 (D := d) hO hRm hL (by omega) (by decide) (c := 4) (by decide) (zC_t hM hi0) rfl rfl (e_X4_key (d := d - 1) htr hM (by omega) hi0) zl_X6_145 zi_X4_key zs_X4_key zc_X4_key zn_X4 zd_X4_key (Nat.le_of_ble_eq_true rfl) dX6_keyOf_15 (by omega) (by omega) ?_
  exact zr_ireturn hO hE dX6_keyOf_18 (zpl_i (by first | ((simp only []) <;> rfl) | contradiction) rfl)
set_option maxRecDepth 100000 in
set_option maxHeartbeats 400000 in
theorem e_X6_standOf_k {l : Launch} {G : zGm} {d n x o q : Nat} {ly : zLy} {τ : zTu} {σ M : zSg} {t : Int32} {i0 : Nat} (htr : l.stackTraces = false) (hX : ly x = (6 + 5, 2, zcr6 o q)) (hM : zC ly o) (hd : 7 ≤ d) (hok : cF_rt M t = some i0) : zEv l G d 0 0 (yX6_standOf, cX6_standOf, 2, some .int) [.ref x, .int t] (fun x => n ≤ x) ly τ (zwr σ o 95 M) (zPl n ly τ (zwr σ o 95 (M)) (some (.int (M (ztk i0) 9)))) := by
  refine zEv_of (ls := [some (.ref x), some (.int t), none, none, none, none, none, none, none]) htr (by decide) (Nat.le_of_ble_eq_true rfl) rfl (fun X hO hE hN hRm hL hNm => ?_)
  have hO : zOk G X RX6 cX6_standOf 2 := hO
  have hi0 : i0 < 16 := cF_rt_lt hok
  refine zr_aload_0 hO dX6_standOf_0 ?_
  refine zr_iload_1 hO dX6_standOf_1 ?_
  refine zr_V1 (D := d) hO hRm hL (by omega) (by decide) (c := 6) (by decide) hX rfl rfl (e_X6_requireTask_ok (d := d - 1) htr hX hM (by omega) hok) zl_X6_88 zi_X6_requireTask zs_X6_requireTask zc_X6_requireTask zn_X6 zd_X6_requireTask (Nat.le_of_ble_eq_true rfl) dX6_standOf_2 (by omega) (by omega) ?_
  refine zg_getfi (c := 4) hO (zC_t hM hi0) (by have := hi0; unfold ztk; omega) (by decide) (by decide) zf_X6_116 rfl dX6_standOf_5 ?_
  exact zr_ireturn hO hE dX6_standOf_8 (zpl_i (by first | ((simp only []) <;> rfl) | contradiction) rfl)
set_option maxRecDepth 100000 in
set_option maxHeartbeats 400000 in
theorem e_X6_levelOf_k {l : Launch} {G : zGm} {d n x o q : Nat} {ly : zLy} {τ : zTu} {σ M : zSg} {t : Int32} {i0 : Nat} (htr : l.stackTraces = false) (hX : ly x = (6 + 5, 2, zcr6 o q)) (hM : zC ly o) (hd : 7 ≤ d) (hok : cF_rt M t = some i0) : zEv l G d 0 0 (yX6_levelOf, cX6_levelOf, 2, some .int) [.ref x, .int t] (fun x => n ≤ x) ly τ (zwr σ o 95 M) (zPl n ly τ (zwr σ o 95 (M)) (some (.int (M (ztk i0) 10)))) := by
  refine zEv_of (ls := [some (.ref x), some (.int t), none, none, none, none, none, none, none]) htr (by decide) (Nat.le_of_ble_eq_true rfl) rfl (fun X hO hE hN hRm hL hNm => ?_)
  have hO : zOk G X RX6 cX6_levelOf 2 := hO
  have hi0 : i0 < 16 := cF_rt_lt hok
  refine zr_aload_0 hO dX6_levelOf_0 ?_
  refine zr_iload_1 hO dX6_levelOf_1 ?_
  refine zr_V1 (D := d) hO hRm hL (by omega) (by decide) (c := 6) (by decide) hX rfl rfl (e_X6_requireTask_ok (d := d - 1) htr hX hM (by omega) hok) zl_X6_88 zi_X6_requireTask zs_X6_requireTask zc_X6_requireTask zn_X6 zd_X6_requireTask (Nat.le_of_ble_eq_true rfl) dX6_levelOf_2 (by omega) (by omega) ?_
  refine zg_getfi (c := 4) hO (zC_t hM hi0) (by have := hi0; unfold ztk; omega) (by decide) (by decide) zf_X6_154 rfl dX6_levelOf_5 ?_
  exact zr_ireturn hO hE dX6_levelOf_8 (zpl_i (by first | ((simp only []) <;> rfl) | contradiction) rfl)
set_option maxRecDepth 100000 in
set_option maxHeartbeats 400000 in
theorem e_X6_lentKey_k {l : Launch} {G : zGm} {d n x o q : Nat} {ly : zLy} {τ : zTu} {σ M : zSg} {t : Int32} {i0 : Nat} (htr : l.stackTraces = false) (hX : ly x = (6 + 5, 2, zcr6 o q)) (hM : zC ly o) (hd : 7 ≤ d) (hok : cF_rt M t = some i0) : zEv l G d 0 0 (yX6_lentKey, cX6_lentKey, 3, some .int) [.ref x, .int t] (fun x => n ≤ x) ly τ (zwr σ o 95 M) (zPl n ly τ (zwr σ o 95 (cF_lent M)) (some (.int (cF_lent M (ztk i0) 15)))) := by
  refine zEv_of (ls := [some (.ref x), some (.int t), none, none, none, none, none, none, none]) htr (by decide) (Nat.le_of_ble_eq_true rfl) rfl (fun X hO hE hN hRm hL hNm => ?_)
  have hO : zOk G X RX6 cX6_lentKey 3 := hO
  have hi0 : i0 < 16 := cF_rt_lt hok
  refine zr_aload_0 hO dX6_lentKey_0 ?_
  refine zr_iload_1 hO dX6_lentKey_1 ?_
  refine zr_V1 (D := d) hO hRm hL (by omega) (by decide) (c := 6) (by decide) hX rfl rfl (e_X6_requireTask_ok (d := d - 1) htr hX hM (by omega) hok) zl_X6_88 zi_X6_requireTask zs_X6_requireTask zc_X6_requireTask zn_X6 zd_X6_requireTask (Nat.le_of_ble_eq_true rfl) dX6_lentKey_2 (by omega) (by omega) ?_
  refine zr_astore_2 hO dX6_lentKey_5 (by decide) rfl ?_
  refine zr_aload_0 hO dX6_lentKey_6 ?_
  refine zr_getfr (c := 6) hO (by decide) (by decide) zf_X6_10 hX rfl rfl dX6_lentKey_7 ?_
  refine zr_V0 (D := d) hO hRm hL (by omega) (by decide) (c := 0) (by decide) (zC_0 hM) rfl rfl (e_X0_findLentKeys (d := d - 1) htr hM (by omega)) zl_X6_148 zi_X0_findLentKeys zs_X0_findLentKeys zc_X0_findLentKeys zn_X0 zd_X0_findLentKeys (Nat.le_of_ble_eq_true rfl) dX6_lentKey_10 (by omega) (by omega) ?_
  refine zr_aload_2 hO dX6_lentKey_13 ?_
  refine zg_getfi (c := 4) hO (zC_t hM hi0) (by have := hi0; unfold ztk; omega) (by decide) (by decide) zf_X6_151 rfl dX6_lentKey_14 ?_
  exact zr_ireturn hO hE dX6_lentKey_17 (zpl_i (by first | ((simp only []) <;> rfl) | contradiction) rfl)
set_option maxRecDepth 100000 in
set_option maxHeartbeats 400000 in
theorem e_X6_told_k {l : Launch} {G : zGm} {d n x o q : Nat} {ly : zLy} {τ : zTu} {σ M : zSg} {t w : Int32} {i0 : Nat} (htr : l.stackTraces = false) (hX : ly x = (6 + 5, 2, zcr6 o q)) (hM : zC ly o) (hd : 7 ≤ d) (hok : cF_rt M t = some i0) (hw0 : ¬ w < 0) (hw1 : w < 5) : zEv l G d 0 0 (yX6_told, cX6_told, 4, some .int) [.ref x, .int t, .int w] (fun x => n ≤ x) ly τ (zwr σ o 95 M) (zPl n ly τ (zwr σ o 95 (M)) (some (.int (cF_tell M i0 w)))) := by
  refine zEv_of (ls := [some (.ref x), some (.int t), some (.int w), none, none, none, none, none, none]) htr (by decide) (Nat.le_of_ble_eq_true rfl) rfl (fun X hO hE hN hRm hL hNm => ?_)
  have hO : zOk G X RX6 cX6_told 4 := hO
  have hi0 : i0 < 16 := cF_rt_lt hok
  refine zr_aload_0 hO dX6_told_0 ?_
  refine zr_iload_1 hO dX6_told_1 ?_
  refine zr_V1 (D := d) hO hRm hL (by omega) (by decide) (c := 6) (by decide) hX rfl rfl (e_X6_requireTask_ok (d := d - 1) htr hX hM (by omega) hok) zl_X6_88 zi_X6_requireTask zs_X6_requireTask zc_X6_requireTask zn_X6 zd_X6_requireTask (Nat.le_of_ble_eq_true rfl) dX6_told_2 (by omega) (by omega) ?_
  refine zr_astore_3 hO dX6_told_5 (by decide) rfl ?_
  refine zr_iload_2 hO dX6_told_6 ?_
  refine zr_if_lt (tgt := 19) hO dX6_told_7 (by decide) (fun c7 => ?_) (fun c7 => ?_)
  · refine zr_iconst (v := 0) hO dX6_told_19 (by decide) ?_
    exfalso
    contradiction
  · refine zr_iload_2 hO dX6_told_10 ?_
    refine zr_iconst (v := 5) hO dX6_told_11 (by decide) ?_
    refine zr_icmp_ge (tgt := 19) hO dX6_told_12 (by decide) (fun c12 => ?_) (fun c12 => ?_)
    · refine zr_iconst (v := 0) hO dX6_told_19 (by decide) ?_
      exfalso
      contradiction
    · refine zr_iconst (v := 1) hO dX6_told_15 (by decide) ?_
      refine zr_goto (tgt := 20) hO dX6_told_16 (by decide) ?_
      refine zr_S1 (D := d) hO hRm hL (by omega) (by decide) rfl (e_X6_requireArgument1 (d := d - 1) htr (by omega)) zl_X6_19 zt_X6_requireArgument zc_X6_requireArgument zn_X6 zd_X6_requireArgument (Nat.le_of_ble_eq_true rfl) dX6_told_20 (by omega) (by omega) ?_
      refine zr_aload_3 hO dX6_told_23 ?_
      refine zr_getfr (c := 4) hO (by decide) (by decide) zf_X6_157 (zC_t hM hi0) rfl rfl dX6_told_24 ?_
      refine zr_iload_2 hO dX6_told_27 ?_
      refine zr_V1 (D := d) hO hRm hL (by omega) (by decide) (c := 3) (by decide) (zC_y hM hi0) rfl rfl (e_X3_tell (d := d - 1) htr hM (by omega) hi0) zl_X6_161 zi_X3_tell zs_X3_tell zc_X3_tell zn_X3 zd_X3_tell (Nat.le_of_ble_eq_true rfl) dX6_told_28 (by omega) (by omega) ?_
      exact zr_ireturn hO hE dX6_told_31 (zpl_i (by first | ((simp only [if_neg c7, if_pos c12]) <;> rfl) | contradiction) rfl)
set_option maxRecDepth 100000 in
set_option maxHeartbeats 400000 in
theorem e_X6_on_k {l : Launch} {G : zGm} {d n x o q : Nat} {ly : zLy} {τ : zTu} {σ M : zSg} {t : Int32} (htr : l.stackTraces = false) (hX : ly x = (6 + 5, 2, zcr6 o q)) (hM : zC ly o) (hd : 7 ≤ d) (hok : cR_proc M t = none) : zEv l G d 0 0 (yX6_on, cX6_on, 2, some .int) [.ref x, .int t] (fun x => n ≤ x) ly τ (zwr σ o 95 M) (zPl n ly τ (zwr σ o 95 (M)) (some (.int (cF_on M t)))) := by
  refine zEv_of (ls := [some (.ref x), some (.int t), none, none, none, none, none, none, none]) htr (by decide) (Nat.le_of_ble_eq_true rfl) rfl (fun X hO hE hN hRm hL hNm => ?_)
  have hO : zOk G X RX6 cX6_on 2 := hO
  refine zr_aload_0 hO dX6_on_0 ?_
  refine zr_iload_1 hO dX6_on_1 ?_
  refine zr_V1 (D := d) hO hRm hL (by omega) (by decide) (c := 6) (by decide) hX rfl rfl (e_X6_requireProcessor_ok (d := d - 1) htr hX hM (by omega) hok) zl_X6_166 zi_X6_requireProcessor zs_X6_requireProcessor zc_X6_requireProcessor zn_X6 zd_X6_requireProcessor (Nat.le_of_ble_eq_true rfl) dX6_on_2 (by omega) (by omega) ?_
  refine zr_aload_0 hO dX6_on_5 ?_
  refine zr_getfr (c := 6) hO (by decide) (by decide) zf_X6_10 hX rfl rfl dX6_on_6 ?_
  refine zr_iload_1 hO dX6_on_9 ?_
  refine zr_V1 (D := d) hO hRm hL (by omega) (by decide) (c := 0) (by decide) (zC_0 hM) rfl rfl (e_X0_onProcessor (d := d - 1) htr hM (by omega)) zl_X6_169 zi_X0_onProcessor zs_X0_onProcessor zc_X0_onProcessor zn_X0 zd_X0_onProcessor (Nat.le_of_ble_eq_true rfl) dX6_on_10 (by omega) (by omega) ?_
  exact zr_ireturn hO hE dX6_on_13 (zpl_i (by first | ((simp only []) <;> rfl) | contradiction) rfl)
set_option maxRecDepth 100000 in
set_option maxHeartbeats 400000 in
theorem e_X6_ran_k {l : Launch} {G : zGm} {d n x o q : Nat} {ly : zLy} {τ : zTu} {σ M : zSg} {t b : Int32} (htr : l.stackTraces = false) (hX : ly x = (6 + 5, 2, zcr6 o q)) (hM : zC ly o) (hd : 7 ≤ d) (hok : cR_proc M t = none) (hw0 : ¬ b < 1) (hw1 : ¬ 30 < b) : zEv l G d 0 0 (yX6_ran, cX6_ran, 3, some .int) [.ref x, .int t, .int b] (fun x => n ≤ x) ly τ (zwr σ o 95 M) (zPl n ly τ (zwr σ o 95 (M)) (some (.int (cF_ranIn M t (M 0 9 - b))))) := by
  refine zEv_of (ls := [some (.ref x), some (.int t), some (.int b), none, none, none, none, none, none]) htr (by decide) (Nat.le_of_ble_eq_true rfl) rfl (fun X hO hE hN hRm hL hNm => ?_)
  have hO : zOk G X RX6 cX6_ran 3 := hO
  refine zr_aload_0 hO dX6_ran_0 ?_
  refine zr_iload_1 hO dX6_ran_1 ?_
  refine zr_V1 (D := d) hO hRm hL (by omega) (by decide) (c := 6) (by decide) hX rfl rfl (e_X6_requireProcessor_ok (d := d - 1) htr hX hM (by omega) hok) zl_X6_166 zi_X6_requireProcessor zs_X6_requireProcessor zc_X6_requireProcessor zn_X6 zd_X6_requireProcessor (Nat.le_of_ble_eq_true rfl) dX6_ran_2 (by omega) (by omega) ?_
  refine zr_iload_2 hO dX6_ran_5 ?_
  refine zr_iconst (v := 1) hO dX6_ran_6 (by decide) ?_
  refine zr_icmp_lt (tgt := 20) hO dX6_ran_7 (by decide) (fun c7 => ?_) (fun c7 => ?_)
  · refine zr_iconst (v := 0) hO dX6_ran_20 (by decide) ?_
    exfalso
    contradiction
  · refine zr_iload_2 hO dX6_ran_10 ?_
    refine zr_bipush (v := 30) hO dX6_ran_11 (by decide) ?_
    refine zr_icmp_gt (tgt := 20) hO dX6_ran_13 (by decide) (fun c13 => ?_) (fun c13 => ?_)
    · refine zr_iconst (v := 0) hO dX6_ran_20 (by decide) ?_
      exfalso
      contradiction
    · refine zr_iconst (v := 1) hO dX6_ran_16 (by decide) ?_
      refine zr_goto (tgt := 21) hO dX6_ran_17 (by decide) ?_
      refine zr_S1 (D := d) hO hRm hL (by omega) (by decide) rfl (e_X6_requireArgument1 (d := d - 1) htr (by omega)) zl_X6_19 zt_X6_requireArgument zc_X6_requireArgument zn_X6 zd_X6_requireArgument (Nat.le_of_ble_eq_true rfl) dX6_ran_21 (by omega) (by omega) ?_
      refine zr_aload_0 hO dX6_ran_24 ?_
      refine zr_getfr (c := 6) hO (by decide) (by decide) zf_X6_10 hX rfl rfl dX6_ran_25 ?_
      refine zr_getfr (c := 0) hO (by decide) (by decide) zf_X6_172 (zC_0 hM) rfl rfl dX6_ran_28 ?_
      refine zr_iload_1 hO dX6_ran_31 ?_
      refine zr_aload_0 hO dX6_ran_32 ?_
      refine zr_getfr (c := 6) hO (by decide) (by decide) zf_X6_10 hX rfl rfl dX6_ran_33 ?_
      refine zg_getfi0 (c := 0) hO (zC_0 hM) (by decide) (by decide) (by decide) zf_X6_136 rfl dX6_ran_36 ?_
      refine zV_pc (pc' := 39) rfl ?_
      refine zr_iload_2 hO dX6_ran_39 ?_
      refine zr_isub hO dX6_ran_40 ?_
      refine zr_V2 (D := d) hO hRm hL (by omega) (by decide) (c := 5) (by decide) (zC_3 hM) rfl rfl (e_X5_ranIn (d := d - 1) htr hM (by omega)) zl_X6_176 zi_X5_ranIn zs_X5_ranIn zc_X5_ranIn zn_X5 zd_X5_ranIn (Nat.le_of_ble_eq_true rfl) dX6_ran_41 (by omega) (by omega) ?_
      exact zr_ireturn hO hE dX6_ran_44 (zpl_i (by first | ((simp only [if_neg c7, if_neg c13]) <;> rfl) | contradiction) rfl)
set_option maxRecDepth 100000 in
set_option maxHeartbeats 400000 in
theorem e_X6_used_k {l : Launch} {G : zGm} {d n x o q : Nat} {ly : zLy} {τ : zTu} {σ M : zSg} {g : Int32} (htr : l.stackTraces = false) (hX : ly x = (6 + 5, 2, zcr6 o q)) (hM : zC ly o) (hd : 7 ≤ d) (hw0 : ¬ g < 0) (hw1 : g < 4) : zEv l G d 0 0 (yX6_used, cX6_used, 3, some .int) [.ref x, .int g] (fun x => n ≤ x) ly τ (zwr σ o 95 M) (zPl n ly τ (zwr σ o 95 (M)) (some (.int (M 9 (ix g))))) := by
  refine zEv_of (ls := [some (.ref x), some (.int g), none, none, none, none, none, none, none]) htr (by decide) (Nat.le_of_ble_eq_true rfl) rfl (fun X hO hE hN hRm hL hNm => ?_)
  have hO : zOk G X RX6 cX6_used 3 := hO
  refine zr_aload_0 hO dX6_used_0 ?_
  refine zr_getfr (c := 6) hO (by decide) (by decide) zf_X6_10 hX rfl rfl dX6_used_1 ?_
  refine zr_getfr (c := 0) hO (by decide) (by decide) zf_X6_188 (zC_0 hM) rfl rfl dX6_used_4 ?_
  refine zr_astore_2 hO dX6_used_7 (by decide) rfl ?_
  refine zr_iload_1 hO dX6_used_8 ?_
  refine zr_if_lt (tgt := 18) hO dX6_used_9 (by decide) (fun c9 => ?_) (fun c9 => ?_)
  · exfalso
    contradiction
  · refine zr_iload_1 hO dX6_used_12 ?_
    refine zr_aload_2 hO dX6_used_13 ?_
    refine zr_alen (v := 4) hO (zC_9 hM) rfl dX6_used_14 ?_
    refine zr_icmp_lt (tgt := 28) hO dX6_used_15 (by decide) (fun c15 => ?_) (fun c15 => ?_)
    · refine zr_aload_2 hO dX6_used_28 ?_
      refine zr_iload_1 hO dX6_used_29 ?_
      refine zg_iald hO (zC_9 hM) (by decide) (by first | assumption | exact zin_c (by assumption) (by assumption) rfl) dX6_used_30 ?_
      exact zr_ireturn hO hE dX6_used_31 (zpl_i (by first | ((simp only [if_neg c9, if_pos c15]) <;> rfl) | contradiction) rfl)
    · exfalso
      contradiction
set_option maxRecDepth 100000 in
set_option maxHeartbeats 400000 in
theorem e_X6_holder_k {l : Launch} {G : zGm} {d n x o q : Nat} {ly : zLy} {τ : zTu} {σ M : zSg} {t : Int32} (htr : l.stackTraces = false) (hX : ly x = (6 + 5, 2, zcr6 o q)) (hM : zC ly o) (hd : 7 ≤ d) (hok : cR_lock t = none) : zEv l G d 0 0 (yX6_holder, cX6_holder, 2, some .int) [.ref x, .int t] (fun x => n ≤ x) ly τ (zwr σ o 95 M) (zPl n ly τ (zwr σ o 95 (M)) (some (.int (cF_holder M t)))) := by
  refine zEv_of (ls := [some (.ref x), some (.int t), none, none, none, none, none, none, none]) htr (by decide) (Nat.le_of_ble_eq_true rfl) rfl (fun X hO hE hN hRm hL hNm => ?_)
  have hO : zOk G X RX6 cX6_holder 2 := hO
  refine zr_iload_1 hO dX6_holder_0 ?_
  refine zr_S1 (D := d) hO hRm hL (by omega) (by decide) rfl (e_X6_requireLock_ok (d := d - 1) htr (by omega) hok) zl_X6_191 zt_X6_requireLock zc_X6_requireLock zn_X6 zd_X6_requireLock (Nat.le_of_ble_eq_true rfl) dX6_holder_1 (by omega) (by omega) ?_
  refine zr_aload_0 hO dX6_holder_4 ?_
  refine zr_getfr (c := 6) hO (by decide) (by decide) zf_X6_10 hX rfl rfl dX6_holder_5 ?_
  refine zr_iload_1 hO dX6_holder_8 ?_
  refine zr_V1 (D := d) hO hRm hL (by omega) (by decide) (c := 0) (by decide) (zC_0 hM) rfl rfl (e_X0_holderOf (d := d - 1) htr hM (by omega)) zl_X6_194 zi_X0_holderOf zs_X0_holderOf zc_X0_holderOf zn_X0 zd_X0_holderOf (Nat.le_of_ble_eq_true rfl) dX6_holder_9 (by omega) (by omega) ?_
  exact zr_ireturn hO hE dX6_holder_12 (zpl_i (by first | ((simp only []) <;> rfl) | contradiction) rfl)
set_option maxRecDepth 100000 in
set_option maxHeartbeats 400000 in
theorem e_X6_blocked_k {l : Launch} {G : zGm} {d n x o q : Nat} {ly : zLy} {τ : zTu} {σ M : zSg} {t : Int32} (htr : l.stackTraces = false) (hX : ly x = (6 + 5, 2, zcr6 o q)) (hM : zC ly o) (hd : 7 ≤ d) (hok : cR_lock t = none) : zEv l G d 0 0 (yX6_blocked, cX6_blocked, 2, some .int) [.ref x, .int t] (fun x => n ≤ x) ly τ (zwr σ o 95 M) (zPl n ly τ (zwr σ o 95 (M)) (some (.int (cF_wt M 4 t)))) := by
  refine zEv_of (ls := [some (.ref x), some (.int t), none, none, none, none, none, none, none]) htr (by decide) (Nat.le_of_ble_eq_true rfl) rfl (fun X hO hE hN hRm hL hNm => ?_)
  have hO : zOk G X RX6 cX6_blocked 2 := hO
  refine zr_iload_1 hO dX6_blocked_0 ?_
  refine zr_S1 (D := d) hO hRm hL (by omega) (by decide) rfl (e_X6_requireLock_ok (d := d - 1) htr (by omega) hok) zl_X6_191 zt_X6_requireLock zc_X6_requireLock zn_X6 zd_X6_requireLock (Nat.le_of_ble_eq_true rfl) dX6_blocked_1 (by omega) (by omega) ?_
  refine zr_aload_0 hO dX6_blocked_4 ?_
  refine zr_getfr (c := 6) hO (by decide) (by decide) zf_X6_10 hX rfl rfl dX6_blocked_5 ?_
  refine zr_iconst (v := 4) hO dX6_blocked_8 (by decide) ?_
  refine zr_iload_1 hO dX6_blocked_9 ?_
  refine zr_V2 (D := d) hO hRm hL (by omega) (by decide) (c := 0) (by decide) (zC_0 hM) rfl rfl (e_X0_waitersAt (d := d - 1) htr hM (by omega)) zl_X6_197 zi_X0_waitersAt zs_X0_waitersAt zc_X0_waitersAt zn_X0 zd_X0_waitersAt (Nat.le_of_ble_eq_true rfl) dX6_blocked_10 (by omega) (by omega) ?_
  exact zr_ireturn hO hE dX6_blocked_13 (zpl_i (by first | ((simp only []) <;> rfl) | contradiction) rfl)
set_option maxRecDepth 100000 in
set_option maxHeartbeats 400000 in
theorem e_X6_number_k {l : Launch} {G : zGm} {d n x o q : Nat} {ly : zLy} {τ : zTu} {σ M : zSg} {t : Int32} (htr : l.stackTraces = false) (hX : ly x = (6 + 5, 2, zcr6 o q)) (hM : zC ly o) (hd : 7 ≤ d) (hok : cR_lock t = none) : zEv l G d 0 0 (yX6_number, cX6_number, 2, some .int) [.ref x, .int t] (fun x => n ≤ x) ly τ (zwr σ o 95 M) (zPl n ly τ (zwr σ o 95 (M)) (some (.int (cF_number M t)))) := by
  refine zEv_of (ls := [some (.ref x), some (.int t), none, none, none, none, none, none, none]) htr (by decide) (Nat.le_of_ble_eq_true rfl) rfl (fun X hO hE hN hRm hL hNm => ?_)
  have hO : zOk G X RX6 cX6_number 2 := hO
  refine zr_iload_1 hO dX6_number_0 ?_
  refine zr_S1 (D := d) hO hRm hL (by omega) (by decide) rfl (e_X6_requireEvent_ok (d := d - 1) htr (by omega) hok) zl_X6_122 zt_X6_requireEvent zc_X6_requireEvent zn_X6 zd_X6_requireEvent (Nat.le_of_ble_eq_true rfl) dX6_number_1 (by omega) (by omega) ?_
  refine zr_aload_0 hO dX6_number_4 ?_
  refine zr_getfr (c := 6) hO (by decide) (by decide) zf_X6_10 hX rfl rfl dX6_number_5 ?_
  refine zr_iload_1 hO dX6_number_8 ?_
  refine zr_V1 (D := d) hO hRm hL (by omega) (by decide) (c := 0) (by decide) (zC_0 hM) rfl rfl (e_X0_numberOf (d := d - 1) htr hM (by omega)) zl_X6_129 zi_X0_numberOf zs_X0_numberOf zc_X0_numberOf zn_X0 zd_X0_numberOf (Nat.le_of_ble_eq_true rfl) dX6_number_9 (by omega) (by omega) ?_
  exact zr_ireturn hO hE dX6_number_12 (zpl_i (by first | ((simp only []) <;> rfl) | contradiction) rfl)
set_option maxRecDepth 100000 in
set_option maxHeartbeats 400000 in
theorem e_X6_awaiting_k {l : Launch} {G : zGm} {d n x o q : Nat} {ly : zLy} {τ : zTu} {σ M : zSg} {t : Int32} (htr : l.stackTraces = false) (hX : ly x = (6 + 5, 2, zcr6 o q)) (hM : zC ly o) (hd : 7 ≤ d) (hok : cR_lock t = none) : zEv l G d 0 0 (yX6_awaiting, cX6_awaiting, 2, some .int) [.ref x, .int t] (fun x => n ≤ x) ly τ (zwr σ o 95 M) (zPl n ly τ (zwr σ o 95 (M)) (some (.int (cF_wt M 5 t)))) := by
  refine zEv_of (ls := [some (.ref x), some (.int t), none, none, none, none, none, none, none]) htr (by decide) (Nat.le_of_ble_eq_true rfl) rfl (fun X hO hE hN hRm hL hNm => ?_)
  have hO : zOk G X RX6 cX6_awaiting 2 := hO
  refine zr_iload_1 hO dX6_awaiting_0 ?_
  refine zr_S1 (D := d) hO hRm hL (by omega) (by decide) rfl (e_X6_requireEvent_ok (d := d - 1) htr (by omega) hok) zl_X6_122 zt_X6_requireEvent zc_X6_requireEvent zn_X6 zd_X6_requireEvent (Nat.le_of_ble_eq_true rfl) dX6_awaiting_1 (by omega) (by omega) ?_
  refine zr_aload_0 hO dX6_awaiting_4 ?_
  refine zr_getfr (c := 6) hO (by decide) (by decide) zf_X6_10 hX rfl rfl dX6_awaiting_5 ?_
  refine zr_iconst (v := 5) hO dX6_awaiting_8 (by decide) ?_
  refine zr_iload_1 hO dX6_awaiting_9 ?_
  refine zr_V2 (D := d) hO hRm hL (by omega) (by decide) (c := 0) (by decide) (zC_0 hM) rfl rfl (e_X0_waitersAt (d := d - 1) htr hM (by omega)) zl_X6_197 zi_X0_waitersAt zs_X0_waitersAt zc_X0_waitersAt zn_X0 zd_X0_waitersAt (Nat.le_of_ble_eq_true rfl) dX6_awaiting_10 (by omega) (by omega) ?_
  exact zr_ireturn hO hE dX6_awaiting_13 (zpl_i (by first | ((simp only []) <;> rfl) | contradiction) rfl)
