set_option maxRecDepth 100000 in
set_option maxHeartbeats 400000 in
theorem e_X6_setProcessors {l : Launch} {G : zGm} {d n x o q : Nat} {ly : zLy} {τ : zTu} {σ M : zSg} {p : Int32} (htr : l.stackTraces = false) (hX : ly x = (6 + 5, 2, zcr6 o q)) (hM : zC ly o) (hd : 7 ≤ d)  : zEv l G d 1 6 (yX6_setProcessors, cX6_setProcessors, 3, some .int) [.ref x, .int p] (fun x => n ≤ x) ly τ (zwr σ o 95 M) (zPx n ly τ σ o M (cP_setProcessors M p)) := by
  refine zEv_of (ls := [some (.ref x), some (.int p), none, none, none, none, none, none, none]) htr (by decide) (Nat.le_of_ble_eq_true rfl) rfl (fun X hO hE hN hRm hL hNm => ?_)
  have hO : zOk G X RX6 cX6_setProcessors 3 := hO
  refine zr_iload_1 hO dX6_setProcessors_0 ?_
  refine zr_iconst (v := 1) hO dX6_setProcessors_1 (by decide) ?_
  refine zr_icmp_lt (tgt := 14) hO dX6_setProcessors_2 (by decide) (fun c2 => ?_) (fun c2 => ?_)
  · refine zr_iconst (v := 0) hO dX6_setProcessors_14 (by decide) ?_
    refine zr_ST1 (D := d) hO hRm hL (by omega) (by decide) rfl (e_X6_requireArgument0 (d := d - 1) htr (by omega)) zl_X6_19 zt_X6_requireArgument zc_X6_requireArgument zn_X6 zd_X6_requireArgument (Nat.le_of_ble_eq_true rfl) dX6_setProcessors_15 (by omega) (by omega) ?_
    exact zX_out hO hE hN (fun z9 hz9 => zPx_x hz9 (by first | ((simp only [cP_setProcessors, if_pos c2]) <;> rfl) | contradiction))
  · refine zr_iload_1 hO dX6_setProcessors_5 ?_
    refine zr_iconst (v := 3) hO dX6_setProcessors_6 (by decide) ?_
    refine zr_icmp_gt (tgt := 14) hO dX6_setProcessors_7 (by decide) (fun c7 => ?_) (fun c7 => ?_)
    · refine zr_iconst (v := 0) hO dX6_setProcessors_14 (by decide) ?_
      refine zr_ST1 (D := d) hO hRm hL (by omega) (by decide) rfl (e_X6_requireArgument0 (d := d - 1) htr (by omega)) zl_X6_19 zt_X6_requireArgument zc_X6_requireArgument zn_X6 zd_X6_requireArgument (Nat.le_of_ble_eq_true rfl) dX6_setProcessors_15 (by omega) (by omega) ?_
      exact zX_out hO hE hN (fun z9 hz9 => zPx_x hz9 (by first | ((simp only [cP_setProcessors, if_neg c2, if_pos c7]) <;> rfl) | contradiction))
    · refine zr_iconst (v := 1) hO dX6_setProcessors_10 (by decide) ?_
      refine zr_goto (tgt := 15) hO dX6_setProcessors_11 (by decide) ?_
      refine zr_S1 (D := d) hO hRm hL (by omega) (by decide) rfl (e_X6_requireArgument1 (d := d - 1) htr (by omega)) zl_X6_19 zt_X6_requireArgument zc_X6_requireArgument zn_X6 zd_X6_requireArgument (Nat.le_of_ble_eq_true rfl) dX6_setProcessors_15 (by omega) (by omega) ?_
      refine zr_aload_0 hO dX6_setProcessors_18 ?_
      refine zr_getfr (c := 6) hO (by decide) (by decide) zf_X6_10 hX rfl rfl dX6_setProcessors_19 ?_
      refine zr_getfr (c := 0) hO (by decide) (by decide) zf_X6_23 (zC_0 hM) rfl rfl dX6_setProcessors_22 ?_
      refine zg_getfi (c := 2) hO (zC_1 hM) (by decide) (by decide) (by decide) zf_X6_27 rfl dX6_setProcessors_25 ?_
      refine zr_istore_2 hO dX6_setProcessors_28 (by decide) rfl ?_
      refine zr_aload_0 hO dX6_setProcessors_29 ?_
      refine zr_getfr (c := 6) hO (by decide) (by decide) zf_X6_10 hX rfl rfl dX6_setProcessors_30 ?_
      refine zV_pc (pc' := 33) rfl ?_
      refine zr_V0 (D := d) hO hRm hL (by omega) (by decide) (c := 0) (by decide) (zC_0 hM) rfl rfl (e_X0_clearProcessors (d := d - 1) htr hM (by omega)) zl_X6_33 zi_X0_clearProcessors zs_X0_clearProcessors zc_X0_clearProcessors zn_X0 zd_X0_clearProcessors (Nat.le_of_ble_eq_true rfl) dX6_setProcessors_33 (by omega) (by omega) ?_
      refine zr_aload_0 hO dX6_setProcessors_36 ?_
      refine zr_getfr (c := 6) hO (by decide) (by decide) zf_X6_10 hX rfl rfl dX6_setProcessors_37 ?_
      refine zr_getfr (c := 0) hO (by decide) (by decide) zf_X6_23 (zC_0 hM) rfl rfl dX6_setProcessors_40 ?_
      refine zr_iload_1 hO dX6_setProcessors_43 ?_
      refine zg_putfi (c := 2) hO (zC_1 hM) (by decide) (by decide) (by decide) zf_X6_27 rfl rfl dX6_setProcessors_44 ?_
      refine zr_iload_2 hO dX6_setProcessors_47 ?_
      refine zV_pc (pc' := 48) rfl ?_
      exact zr_ireturn hO hE dX6_setProcessors_48 (fun z9 hz9 => zPx_i hz9 (by first | ((simp only [cP_setProcessors, if_neg c2, if_neg c7]) <;> rfl) | contradiction))
set_option maxRecDepth 100000 in
set_option maxHeartbeats 400000 in
theorem e_X6_setWay {l : Launch} {G : zGm} {d n x o q : Nat} {ly : zLy} {τ : zTu} {σ M : zSg} {a b c : Int32} (htr : l.stackTraces = false) (hX : ly x = (6 + 5, 2, zcr6 o q)) (hM : zC ly o) (hd : 7 ≤ d)  : zEv l G d 1 6 (yX6_setWay, cX6_setWay, 5, some .int) [.ref x, .int a, .int b, .int c] (fun x => n ≤ x) ly τ (zwr σ o 95 M) (zPx n ly τ σ o M (cP_setWay M a b c)) := by
  refine zEv_of (ls := [some (.ref x), some (.int a), some (.int b), some (.int c), none, none, none, none, none]) htr (by decide) (Nat.le_of_ble_eq_true rfl) rfl (fun X hO hE hN hRm hL hNm => ?_)
  have hO : zOk G X RX6 cX6_setWay 5 := hO
  refine zr_iload_1 hO dX6_setWay_0 ?_
  refine zr_if_lt (tgt := 13) hO dX6_setWay_1 (by decide) (fun c1 => ?_) (fun c1 => ?_)
  · refine zr_iconst (v := 0) hO dX6_setWay_13 (by decide) ?_
    refine zr_ST1 (D := d) hO hRm hL (by omega) (by decide) rfl (e_X6_requireArgument0 (d := d - 1) htr (by omega)) zl_X6_19 zt_X6_requireArgument zc_X6_requireArgument zn_X6 zd_X6_requireArgument (Nat.le_of_ble_eq_true rfl) dX6_setWay_14 (by omega) (by omega) ?_
    exact zX_out hO hE hN (fun z9 hz9 => zPx_x hz9 (by first | ((simp only [cP_setWay, if_pos c1]) <;> rfl) | contradiction))
  · refine zr_iload_1 hO dX6_setWay_4 ?_
    refine zr_iconst (v := 2) hO dX6_setWay_5 (by decide) ?_
    refine zr_icmp_gt (tgt := 13) hO dX6_setWay_6 (by decide) (fun c6 => ?_) (fun c6 => ?_)
    · refine zr_iconst (v := 0) hO dX6_setWay_13 (by decide) ?_
      refine zr_ST1 (D := d) hO hRm hL (by omega) (by decide) rfl (e_X6_requireArgument0 (d := d - 1) htr (by omega)) zl_X6_19 zt_X6_requireArgument zc_X6_requireArgument zn_X6 zd_X6_requireArgument (Nat.le_of_ble_eq_true rfl) dX6_setWay_14 (by omega) (by omega) ?_
      exact zX_out hO hE hN (fun z9 hz9 => zPx_x hz9 (by first | ((simp only [cP_setWay, if_neg c1, if_pos c6]) <;> rfl) | contradiction))
    · refine zr_iconst (v := 1) hO dX6_setWay_9 (by decide) ?_
      refine zr_goto (tgt := 14) hO dX6_setWay_10 (by decide) ?_
      refine zr_S1 (D := d) hO hRm hL (by omega) (by decide) rfl (e_X6_requireArgument1 (d := d - 1) htr (by omega)) zl_X6_19 zt_X6_requireArgument zc_X6_requireArgument zn_X6 zd_X6_requireArgument (Nat.le_of_ble_eq_true rfl) dX6_setWay_14 (by omega) (by omega) ?_
      refine zr_iload_2 hO dX6_setWay_17 ?_
      refine zr_iconst (v := 1) hO dX6_setWay_18 (by decide) ?_
      refine zr_icmp_lt (tgt := 32) hO dX6_setWay_19 (by decide) (fun c19 => ?_) (fun c19 => ?_)
      · refine zr_iconst (v := 0) hO dX6_setWay_32 (by decide) ?_
        refine zr_ST1 (D := d) hO hRm hL (by omega) (by decide) rfl (e_X6_requireArgument0 (d := d - 1) htr (by omega)) zl_X6_19 zt_X6_requireArgument zc_X6_requireArgument zn_X6 zd_X6_requireArgument (Nat.le_of_ble_eq_true rfl) dX6_setWay_33 (by omega) (by omega) ?_
        exact zX_out hO hE hN (fun z9 hz9 => zPx_x hz9 (by first | ((simp only [cP_setWay, if_neg c1, if_neg c6, if_pos c19]) <;> rfl) | contradiction))
      · refine zr_iload_2 hO dX6_setWay_22 ?_
        refine zr_bipush (v := 10) hO dX6_setWay_23 (by decide) ?_
        refine zr_icmp_gt (tgt := 32) hO dX6_setWay_25 (by decide) (fun c25 => ?_) (fun c25 => ?_)
        · refine zr_iconst (v := 0) hO dX6_setWay_32 (by decide) ?_
          refine zr_ST1 (D := d) hO hRm hL (by omega) (by decide) rfl (e_X6_requireArgument0 (d := d - 1) htr (by omega)) zl_X6_19 zt_X6_requireArgument zc_X6_requireArgument zn_X6 zd_X6_requireArgument (Nat.le_of_ble_eq_true rfl) dX6_setWay_33 (by omega) (by omega) ?_
          exact zX_out hO hE hN (fun z9 hz9 => zPx_x hz9 (by first | ((simp only [cP_setWay, if_neg c1, if_neg c6, if_neg c19, if_pos c25]) <;> rfl) | contradiction))
        · refine zr_iconst (v := 1) hO dX6_setWay_28 (by decide) ?_
          refine zr_goto (tgt := 33) hO dX6_setWay_29 (by decide) ?_
          refine zr_S1 (D := d) hO hRm hL (by omega) (by decide) rfl (e_X6_requireArgument1 (d := d - 1) htr (by omega)) zl_X6_19 zt_X6_requireArgument zc_X6_requireArgument zn_X6 zd_X6_requireArgument (Nat.le_of_ble_eq_true rfl) dX6_setWay_33 (by omega) (by omega) ?_
          refine zr_iload_3 hO dX6_setWay_36 ?_
          refine zr_if_lt (tgt := 50) hO dX6_setWay_37 (by decide) (fun c37 => ?_) (fun c37 => ?_)
          · refine zr_iconst (v := 0) hO dX6_setWay_50 (by decide) ?_
            refine zr_ST1 (D := d) hO hRm hL (by omega) (by decide) rfl (e_X6_requireArgument0 (d := d - 1) htr (by omega)) zl_X6_19 zt_X6_requireArgument zc_X6_requireArgument zn_X6 zd_X6_requireArgument (Nat.le_of_ble_eq_true rfl) dX6_setWay_51 (by omega) (by omega) ?_
            exact zX_out hO hE hN (fun z9 hz9 => zPx_x hz9 (by first | ((simp only [cP_setWay, if_neg c1, if_neg c6, if_neg c19, if_neg c25, if_pos c37]) <;> rfl) | contradiction))
          · refine zr_iload_3 hO dX6_setWay_40 ?_
            refine zr_bipush (v := 50) hO dX6_setWay_41 (by decide) ?_
            refine zr_icmp_gt (tgt := 50) hO dX6_setWay_43 (by decide) (fun c43 => ?_) (fun c43 => ?_)
            · refine zr_iconst (v := 0) hO dX6_setWay_50 (by decide) ?_
              refine zr_ST1 (D := d) hO hRm hL (by omega) (by decide) rfl (e_X6_requireArgument0 (d := d - 1) htr (by omega)) zl_X6_19 zt_X6_requireArgument zc_X6_requireArgument zn_X6 zd_X6_requireArgument (Nat.le_of_ble_eq_true rfl) dX6_setWay_51 (by omega) (by omega) ?_
              exact zX_out hO hE hN (fun z9 hz9 => zPx_x hz9 (by first | ((simp only [cP_setWay, if_neg c1, if_neg c6, if_neg c19, if_neg c25, if_neg c37, if_pos c43]) <;> rfl) | contradiction))
            · refine zr_iconst (v := 1) hO dX6_setWay_46 (by decide) ?_
              refine zr_goto (tgt := 51) hO dX6_setWay_47 (by decide) ?_
              refine zr_S1 (D := d) hO hRm hL (by omega) (by decide) rfl (e_X6_requireArgument1 (d := d - 1) htr (by omega)) zl_X6_19 zt_X6_requireArgument zc_X6_requireArgument zn_X6 zd_X6_requireArgument (Nat.le_of_ble_eq_true rfl) dX6_setWay_51 (by omega) (by omega) ?_
              refine zr_aload_0 hO dX6_setWay_54 ?_
              refine zr_getfr (c := 6) hO (by decide) (by decide) zf_X6_10 hX rfl rfl dX6_setWay_55 ?_
              refine zr_getfr (c := 0) hO (by decide) (by decide) zf_X6_23 (zC_0 hM) rfl rfl dX6_setWay_58 ?_
              refine zg_getfi (c := 2) hO (zC_1 hM) (by decide) (by decide) (by decide) zf_X6_36 rfl dX6_setWay_61 ?_
              refine zr_istore_4 hO dX6_setWay_64 (by decide) rfl ?_
              refine zr_aload_0 hO dX6_setWay_66 ?_
              refine zr_getfr (c := 6) hO (by decide) (by decide) zf_X6_10 hX rfl rfl dX6_setWay_67 ?_
              refine zV_pc (pc' := 70) rfl ?_
              refine zr_getfr (c := 0) hO (by decide) (by decide) zf_X6_23 (zC_0 hM) rfl rfl dX6_setWay_70 ?_
              refine zr_iload_1 hO dX6_setWay_73 ?_
              refine zg_putfi (c := 2) hO (zC_1 hM) (by decide) (by decide) (by decide) zf_X6_36 rfl rfl dX6_setWay_74 ?_
              refine zr_aload_0 hO dX6_setWay_77 ?_
              refine zr_getfr (c := 6) hO (by decide) (by decide) zf_X6_10 hX rfl rfl dX6_setWay_78 ?_
              refine zr_getfr (c := 0) hO (by decide) (by decide) zf_X6_23 (zC_0 hM) rfl rfl dX6_setWay_81 ?_
              refine zr_iload_2 hO dX6_setWay_84 ?_
              refine zV_pc (pc' := 85) rfl ?_
              refine zg_putfi (c := 2) hO (zC_1 hM) (by decide) (by decide) (by decide) zf_X6_39 rfl rfl dX6_setWay_85 ?_
              refine zr_aload_0 hO dX6_setWay_88 ?_
              refine zr_getfr (c := 6) hO (by decide) (by decide) zf_X6_10 hX rfl rfl dX6_setWay_89 ?_
              refine zr_getfr (c := 0) hO (by decide) (by decide) zf_X6_23 (zC_0 hM) rfl rfl dX6_setWay_92 ?_
              refine zr_iload_3 hO dX6_setWay_95 ?_
              refine zg_putfi (c := 2) hO (zC_1 hM) (by decide) (by decide) (by decide) zf_X6_42 rfl rfl dX6_setWay_96 ?_
              refine zr_iload_4 hO dX6_setWay_99 ?_
              refine zV_pc (pc' := 101) rfl ?_
              exact zr_ireturn hO hE dX6_setWay_101 (fun z9 hz9 => zPx_i hz9 (by first | ((simp only [cP_setWay, if_neg c1, if_neg c6, if_neg c19, if_neg c25, if_neg c37, if_neg c43]) <;> rfl) | contradiction))
set_option maxRecDepth 100000 in
set_option maxHeartbeats 400000 in
theorem e_X6_setQuota {l : Launch} {G : zGm} {d n x o q : Nat} {ly : zLy} {τ : zTu} {σ M : zSg} {g v : Int32} (htr : l.stackTraces = false) (hX : ly x = (6 + 5, 2, zcr6 o q)) (hM : zC ly o) (hd : 7 ≤ d)  : zEv l G d 1 6 (yX6_setQuota, cX6_setQuota, 5, some .int) [.ref x, .int g, .int v] (fun x => n ≤ x) ly τ (zwr σ o 95 M) (zPx n ly τ σ o M (cP_setQuota M g v)) := by
  refine zEv_of (ls := [some (.ref x), some (.int g), some (.int v), none, none, none, none, none, none]) htr (by decide) (Nat.le_of_ble_eq_true rfl) rfl (fun X hO hE hN hRm hL hNm => ?_)
  have hO : zOk G X RX6 cX6_setQuota 5 := hO
  refine zr_aload_0 hO dX6_setQuota_0 ?_
  refine zr_getfr (c := 6) hO (by decide) (by decide) zf_X6_10 hX rfl rfl dX6_setQuota_1 ?_
  refine zr_getfr (c := 0) hO (by decide) (by decide) zf_X6_23 (zC_0 hM) rfl rfl dX6_setQuota_4 ?_
  refine zr_getfr (c := 2) hO (by decide) (by decide) zf_X6_45 (zC_1 hM) rfl rfl dX6_setQuota_7 ?_
  refine zr_astore_3 hO dX6_setQuota_10 (by decide) rfl ?_
  refine zr_iload_1 hO dX6_setQuota_11 ?_
  refine zr_if_lt (tgt := 21) hO dX6_setQuota_12 (by decide) (fun c12 => ?_) (fun c12 => ?_)
  · exact zr_throw (D := d) hO hE hN (by omega) hRm zXw_ix (by decide +kernel) (by decide : 51 ∈ zStrs) (Nat.le_of_ble_eq_true rfl) (by omega) (by omega) dX6_setQuota_21 dX6_setQuota_24 dX6_setQuota_25 dX6_setQuota_27 dX6_setQuota_30 (fun z8 z9 hz8 hz9 => zPx_x (Nat.le_trans hz8 hz9) (by first | ((simp only [cP_setQuota, if_pos c12]) <;> rfl) | contradiction))
  · refine zr_iload_1 hO dX6_setQuota_15 ?_
    refine zr_aload_3 hO dX6_setQuota_16 ?_
    refine zr_alen (v := 4) hO (zC_2 hM) rfl dX6_setQuota_17 ?_
    refine zr_icmp_lt (tgt := 31) hO dX6_setQuota_18 (by decide) (fun c18 => ?_) (fun c18 => ?_)
    · refine zr_iload_2 hO dX6_setQuota_31 ?_
      refine zr_if_lt (tgt := 45) hO dX6_setQuota_32 (by decide) (fun c32 => ?_) (fun c32 => ?_)
      · refine zr_iconst (v := 0) hO dX6_setQuota_45 (by decide) ?_
        refine zr_ST1 (D := d) hO hRm hL (by omega) (by decide) rfl (e_X6_requireArgument0 (d := d - 1) htr (by omega)) zl_X6_19 zt_X6_requireArgument zc_X6_requireArgument zn_X6 zd_X6_requireArgument (Nat.le_of_ble_eq_true rfl) dX6_setQuota_46 (by omega) (by omega) ?_
        exact zX_out hO hE hN (fun z9 hz9 => zPx_x hz9 (by first | ((simp only [cP_setQuota, if_neg c12, if_pos c18, if_pos c32]) <;> rfl) | contradiction))
      · refine zr_iload_2 hO dX6_setQuota_35 ?_
        refine zr_bipush (v := 50) hO dX6_setQuota_36 (by decide) ?_
        refine zr_icmp_gt (tgt := 45) hO dX6_setQuota_38 (by decide) (fun c38 => ?_) (fun c38 => ?_)
        · refine zr_iconst (v := 0) hO dX6_setQuota_45 (by decide) ?_
          refine zr_ST1 (D := d) hO hRm hL (by omega) (by decide) rfl (e_X6_requireArgument0 (d := d - 1) htr (by omega)) zl_X6_19 zt_X6_requireArgument zc_X6_requireArgument zn_X6 zd_X6_requireArgument (Nat.le_of_ble_eq_true rfl) dX6_setQuota_46 (by omega) (by omega) ?_
          exact zX_out hO hE hN (fun z9 hz9 => zPx_x hz9 (by first | ((simp only [cP_setQuota, if_neg c12, if_pos c18, if_neg c32, if_pos c38]) <;> rfl) | contradiction))
        · refine zr_iconst (v := 1) hO dX6_setQuota_41 (by decide) ?_
          refine zr_goto (tgt := 46) hO dX6_setQuota_42 (by decide) ?_
          refine zr_S1 (D := d) hO hRm hL (by omega) (by decide) rfl (e_X6_requireArgument1 (d := d - 1) htr (by omega)) zl_X6_19 zt_X6_requireArgument zc_X6_requireArgument zn_X6 zd_X6_requireArgument (Nat.le_of_ble_eq_true rfl) dX6_setQuota_46 (by omega) (by omega) ?_
          refine zr_aload_3 hO dX6_setQuota_49 ?_
          refine zr_iload_1 hO dX6_setQuota_50 ?_
          refine zg_iald hO (zC_2 hM) (by decide) (by first | assumption | exact zin_c (by assumption) (by assumption) rfl) dX6_setQuota_51 ?_
          refine zr_istore_4 hO dX6_setQuota_52 (by decide) rfl ?_
          refine zr_aload_3 hO dX6_setQuota_54 ?_
          refine zr_iload_1 hO dX6_setQuota_55 ?_
          refine zr_iload_2 hO dX6_setQuota_56 ?_
          refine zV_pc (pc' := 57) rfl ?_
          refine zg_iast hO (zC_2 hM) (by decide) (by first | assumption | exact zin_c (by assumption) (by assumption) rfl) dX6_setQuota_57 ?_
          refine zr_iload_4 hO dX6_setQuota_58 ?_
          exact zr_ireturn hO hE dX6_setQuota_60 (fun z9 hz9 => zPx_i hz9 (by first | ((simp only [cP_setQuota, if_neg c12, if_pos c18, if_neg c32, if_neg c38]) <;> rfl) | contradiction))
    · exact zr_throw (D := d) hO hE hN (by omega) hRm zXw_ix (by decide +kernel) (by decide : 51 ∈ zStrs) (Nat.le_of_ble_eq_true rfl) (by omega) (by omega) dX6_setQuota_21 dX6_setQuota_24 dX6_setQuota_25 dX6_setQuota_27 dX6_setQuota_30 (fun z8 z9 hz8 hz9 => zPx_x (Nat.le_trans hz8 hz9) (by first | ((simp only [cP_setQuota, if_neg c12, if_neg c18]) <;> rfl) | contradiction))
set_option maxRecDepth 100000 in
set_option maxHeartbeats 400000 in
theorem e_X6_setPeriod {l : Launch} {G : zGm} {d n x o q : Nat} {ly : zLy} {τ : zTu} {σ M : zSg} {v : Int32} (htr : l.stackTraces = false) (hX : ly x = (6 + 5, 2, zcr6 o q)) (hM : zC ly o) (hd : 7 ≤ d)  : zEv l G d 1 6 (yX6_setPeriod, cX6_setPeriod, 3, some .int) [.ref x, .int v] (fun x => n ≤ x) ly τ (zwr σ o 95 M) (zPx n ly τ σ o M (cP_setPeriod M v)) := by
  refine zEv_of (ls := [some (.ref x), some (.int v), none, none, none, none, none, none, none]) htr (by decide) (Nat.le_of_ble_eq_true rfl) rfl (fun X hO hE hN hRm hL hNm => ?_)
  have hO : zOk G X RX6 cX6_setPeriod 3 := hO
  refine zr_iload_1 hO dX6_setPeriod_0 ?_
  refine zr_iconst (v := 1) hO dX6_setPeriod_1 (by decide) ?_
  refine zr_icmp_lt (tgt := 15) hO dX6_setPeriod_2 (by decide) (fun c2 => ?_) (fun c2 => ?_)
  · refine zr_iconst (v := 0) hO dX6_setPeriod_15 (by decide) ?_
    refine zr_ST1 (D := d) hO hRm hL (by omega) (by decide) rfl (e_X6_requireArgument0 (d := d - 1) htr (by omega)) zl_X6_19 zt_X6_requireArgument zc_X6_requireArgument zn_X6 zd_X6_requireArgument (Nat.le_of_ble_eq_true rfl) dX6_setPeriod_16 (by omega) (by omega) ?_
    exact zX_out hO hE hN (fun z9 hz9 => zPx_x hz9 (by first | ((simp only [cP_setPeriod, if_pos c2]) <;> rfl) | contradiction))
  · refine zr_iload_1 hO dX6_setPeriod_5 ?_
    refine zr_bipush (v := 50) hO dX6_setPeriod_6 (by decide) ?_
    refine zr_icmp_gt (tgt := 15) hO dX6_setPeriod_8 (by decide) (fun c8 => ?_) (fun c8 => ?_)
    · refine zr_iconst (v := 0) hO dX6_setPeriod_15 (by decide) ?_
      refine zr_ST1 (D := d) hO hRm hL (by omega) (by decide) rfl (e_X6_requireArgument0 (d := d - 1) htr (by omega)) zl_X6_19 zt_X6_requireArgument zc_X6_requireArgument zn_X6 zd_X6_requireArgument (Nat.le_of_ble_eq_true rfl) dX6_setPeriod_16 (by omega) (by omega) ?_
      exact zX_out hO hE hN (fun z9 hz9 => zPx_x hz9 (by first | ((simp only [cP_setPeriod, if_neg c2, if_pos c8]) <;> rfl) | contradiction))
    · refine zr_iconst (v := 1) hO dX6_setPeriod_11 (by decide) ?_
      refine zr_goto (tgt := 16) hO dX6_setPeriod_12 (by decide) ?_
      refine zr_S1 (D := d) hO hRm hL (by omega) (by decide) rfl (e_X6_requireArgument1 (d := d - 1) htr (by omega)) zl_X6_19 zt_X6_requireArgument zc_X6_requireArgument zn_X6 zd_X6_requireArgument (Nat.le_of_ble_eq_true rfl) dX6_setPeriod_16 (by omega) (by omega) ?_
      refine zr_aload_0 hO dX6_setPeriod_19 ?_
      refine zr_getfr (c := 6) hO (by decide) (by decide) zf_X6_10 hX rfl rfl dX6_setPeriod_20 ?_
      refine zr_getfr (c := 0) hO (by decide) (by decide) zf_X6_23 (zC_0 hM) rfl rfl dX6_setPeriod_23 ?_
      refine zg_getfi (c := 2) hO (zC_1 hM) (by decide) (by decide) (by decide) zf_X6_56 rfl dX6_setPeriod_26 ?_
      refine zr_istore_2 hO dX6_setPeriod_29 (by decide) rfl ?_
      refine zr_aload_0 hO dX6_setPeriod_30 ?_
      refine zr_getfr (c := 6) hO (by decide) (by decide) zf_X6_10 hX rfl rfl dX6_setPeriod_31 ?_
      refine zV_pc (pc' := 34) rfl ?_
      refine zr_getfr (c := 0) hO (by decide) (by decide) zf_X6_23 (zC_0 hM) rfl rfl dX6_setPeriod_34 ?_
      refine zr_iload_1 hO dX6_setPeriod_37 ?_
      refine zg_putfi (c := 2) hO (zC_1 hM) (by decide) (by decide) (by decide) zf_X6_56 rfl rfl dX6_setPeriod_38 ?_
      refine zr_iload_2 hO dX6_setPeriod_41 ?_
      exact zr_ireturn hO hE dX6_setPeriod_42 (fun z9 hz9 => zPx_i hz9 (by first | ((simp only [cP_setPeriod, if_neg c2, if_neg c8]) <;> rfl) | contradiction))
set_option maxRecDepth 100000 in
set_option maxHeartbeats 400000 in
theorem e_X6_addTask {l : Launch} {G : zGm} {d n x o q : Nat} {ly : zLy} {τ : zTu} {σ M : zSg} {a b c : Int32} (htr : l.stackTraces = false) (hX : ly x = (6 + 5, 2, zcr6 o q)) (hM : zC ly o) (hd : 7 ≤ d)  : zEv l G d 1 6 (yX6_addTask, cX6_addTask, 6, some .int) [.ref x, .int a, .int b, .int c] (fun x => n ≤ x) ly τ (zwr σ o 95 M) (zPx n ly τ σ o M (cP_addTask M a b c)) := by
  refine zEv_of (ls := [some (.ref x), some (.int a), some (.int b), some (.int c), none, none, none, none, none]) htr (by decide) (Nat.le_of_ble_eq_true rfl) rfl (fun X hO hE hN hRm hL hNm => ?_)
  have hO : zOk G X RX6 cX6_addTask 6 := hO
  refine zr_iload_1 hO dX6_addTask_0 ?_
  refine zr_if_lt (tgt := 14) hO dX6_addTask_1 (by decide) (fun c1 => ?_) (fun c1 => ?_)
  · refine zr_iconst (v := 0) hO dX6_addTask_14 (by decide) ?_
    refine zr_ST1 (D := d) hO hRm hL (by omega) (by decide) rfl (e_X6_requireArgument0 (d := d - 1) htr (by omega)) zl_X6_19 zt_X6_requireArgument zc_X6_requireArgument zn_X6 zd_X6_requireArgument (Nat.le_of_ble_eq_true rfl) dX6_addTask_15 (by omega) (by omega) ?_
    exact zX_out hO hE hN (fun z9 hz9 => zPx_x hz9 (by first | ((simp only [cP_addTask, if_pos c1]) <;> rfl) | contradiction))
  · refine zr_iload_1 hO dX6_addTask_4 ?_
    refine zr_bipush (v := 8) hO dX6_addTask_5 (by decide) ?_
    refine zr_icmp_ge (tgt := 14) hO dX6_addTask_7 (by decide) (fun c7 => ?_) (fun c7 => ?_)
    · refine zr_iconst (v := 0) hO dX6_addTask_14 (by decide) ?_
      refine zr_ST1 (D := d) hO hRm hL (by omega) (by decide) rfl (e_X6_requireArgument0 (d := d - 1) htr (by omega)) zl_X6_19 zt_X6_requireArgument zc_X6_requireArgument zn_X6 zd_X6_requireArgument (Nat.le_of_ble_eq_true rfl) dX6_addTask_15 (by omega) (by omega) ?_
      exact zX_out hO hE hN (fun z9 hz9 => zPx_x hz9 (by first | ((simp only [cP_addTask, if_neg c1, if_neg c7]) <;> rfl) | contradiction))
    · refine zr_iconst (v := 1) hO dX6_addTask_10 (by decide) ?_
      refine zr_goto (tgt := 15) hO dX6_addTask_11 (by decide) ?_
      refine zr_S1 (D := d) hO hRm hL (by omega) (by decide) rfl (e_X6_requireArgument1 (d := d - 1) htr (by omega)) zl_X6_19 zt_X6_requireArgument zc_X6_requireArgument zn_X6 zd_X6_requireArgument (Nat.le_of_ble_eq_true rfl) dX6_addTask_15 (by omega) (by omega) ?_
      refine zr_iload_2 hO dX6_addTask_18 ?_
      refine zr_if_lt (tgt := 31) hO dX6_addTask_19 (by decide) (fun c19 => ?_) (fun c19 => ?_)
      · refine zr_iconst (v := 0) hO dX6_addTask_31 (by decide) ?_
        refine zr_ST1 (D := d) hO hRm hL (by omega) (by decide) rfl (e_X6_requireArgument0 (d := d - 1) htr (by omega)) zl_X6_19 zt_X6_requireArgument zc_X6_requireArgument zn_X6 zd_X6_requireArgument (Nat.le_of_ble_eq_true rfl) dX6_addTask_32 (by omega) (by omega) ?_
        exact zX_out hO hE hN (fun z9 hz9 => zPx_x hz9 (by first | ((simp only [cP_addTask, if_neg c1, if_pos c7, if_pos c19]) <;> rfl) | contradiction))
      · refine zr_iload_2 hO dX6_addTask_22 ?_
        refine zr_iconst (v := 4) hO dX6_addTask_23 (by decide) ?_
        refine zr_icmp_ge (tgt := 31) hO dX6_addTask_24 (by decide) (fun c24 => ?_) (fun c24 => ?_)
        · refine zr_iconst (v := 0) hO dX6_addTask_31 (by decide) ?_
          refine zr_ST1 (D := d) hO hRm hL (by omega) (by decide) rfl (e_X6_requireArgument0 (d := d - 1) htr (by omega)) zl_X6_19 zt_X6_requireArgument zc_X6_requireArgument zn_X6 zd_X6_requireArgument (Nat.le_of_ble_eq_true rfl) dX6_addTask_32 (by omega) (by omega) ?_
          exact zX_out hO hE hN (fun z9 hz9 => zPx_x hz9 (by first | ((simp only [cP_addTask, if_neg c1, if_pos c7, if_neg c19, if_neg c24]) <;> rfl) | contradiction))
        · refine zr_iconst (v := 1) hO dX6_addTask_27 (by decide) ?_
          refine zr_goto (tgt := 32) hO dX6_addTask_28 (by decide) ?_
          refine zr_S1 (D := d) hO hRm hL (by omega) (by decide) rfl (e_X6_requireArgument1 (d := d - 1) htr (by omega)) zl_X6_19 zt_X6_requireArgument zc_X6_requireArgument zn_X6 zd_X6_requireArgument (Nat.le_of_ble_eq_true rfl) dX6_addTask_32 (by omega) (by omega) ?_
          refine zr_iload_3 hO dX6_addTask_35 ?_
          refine zr_iconst (v := 1) hO dX6_addTask_36 (by decide) ?_
          refine zr_icmp_lt (tgt := 49) hO dX6_addTask_37 (by decide) (fun c37 => ?_) (fun c37 => ?_)
          · refine zr_iconst (v := 0) hO dX6_addTask_49 (by decide) ?_
            refine zr_ST1 (D := d) hO hRm hL (by omega) (by decide) rfl (e_X6_requireArgument0 (d := d - 1) htr (by omega)) zl_X6_19 zt_X6_requireArgument zc_X6_requireArgument zn_X6 zd_X6_requireArgument (Nat.le_of_ble_eq_true rfl) dX6_addTask_50 (by omega) (by omega) ?_
            exact zX_out hO hE hN (fun z9 hz9 => zPx_x hz9 (by first | ((simp only [cP_addTask, if_neg c1, if_pos c7, if_neg c19, if_pos c24, if_pos c37]) <;> rfl) | contradiction))
          · refine zr_iload_3 hO dX6_addTask_40 ?_
            refine zr_iconst (v := 5) hO dX6_addTask_41 (by decide) ?_
            refine zr_icmp_gt (tgt := 49) hO dX6_addTask_42 (by decide) (fun c42 => ?_) (fun c42 => ?_)
            · refine zr_iconst (v := 0) hO dX6_addTask_49 (by decide) ?_
              refine zr_ST1 (D := d) hO hRm hL (by omega) (by decide) rfl (e_X6_requireArgument0 (d := d - 1) htr (by omega)) zl_X6_19 zt_X6_requireArgument zc_X6_requireArgument zn_X6 zd_X6_requireArgument (Nat.le_of_ble_eq_true rfl) dX6_addTask_50 (by omega) (by omega) ?_
              exact zX_out hO hE hN (fun z9 hz9 => zPx_x hz9 (by first | ((simp only [cP_addTask, if_neg c1, if_pos c7, if_neg c19, if_pos c24, if_neg c37, if_pos c42]) <;> rfl) | contradiction))
            · refine zr_iconst (v := 1) hO dX6_addTask_45 (by decide) ?_
              refine zr_goto (tgt := 50) hO dX6_addTask_46 (by decide) ?_
              refine zr_S1 (D := d) hO hRm hL (by omega) (by decide) rfl (e_X6_requireArgument1 (d := d - 1) htr (by omega)) zl_X6_19 zt_X6_requireArgument zc_X6_requireArgument zn_X6 zd_X6_requireArgument (Nat.le_of_ble_eq_true rfl) dX6_addTask_50 (by omega) (by omega) ?_
              refine zr_aload_0 hO dX6_addTask_53 ?_
              refine zr_getfr (c := 6) hO (by decide) (by decide) zf_X6_10 hX rfl rfl dX6_addTask_54 ?_
              refine zg_getfi0 (c := 0) hO (zC_0 hM) (by decide) (by decide) (by decide) zf_X6_59 rfl dX6_addTask_57 ?_
              refine zr_istore_4 hO dX6_addTask_60 (by decide) rfl ?_
              refine zr_aload_0 hO dX6_addTask_62 ?_
              refine zr_getfr (c := 6) hO (by decide) (by decide) zf_X6_10 hX rfl rfl dX6_addTask_63 ?_
              refine zr_iload_4 hO dX6_addTask_66 ?_
              refine zV_pc (pc' := 68) rfl ?_
              refine zr_V1 (D := d) hO hRm hL (by omega) (by decide) (c := 0) (by decide) (zC_0 hM) rfl rfl (e_X0_taskAt (d := d - 1) htr hM (by omega)) zl_X6_62 zi_X0_taskAt zs_X0_taskAt zc_X0_taskAt zn_X0 zd_X0_taskAt (Nat.le_of_ble_eq_true rfl) dX6_addTask_68 (by omega) (by omega) ?_
              generalize hq68 : cF_at _ = r68
              rcases r68 with _ | r68
              · refine zr_nstore_5 hO dX6_addTask_71 (by decide) rfl ?_
                refine zr_nload_5 hO dX6_addTask_73 ?_
                refine zr_ifnonnullN hO dX6_addTask_75 ?_
                exact zr_throw (D := d) hO hE hN (by omega) hRm zXw_st (by decide +kernel) (by decide : 68 ∈ zStrs) (Nat.le_of_ble_eq_true rfl) (by omega) (by omega) dX6_addTask_78 dX6_addTask_81 dX6_addTask_82 dX6_addTask_84 dX6_addTask_87 (fun z8 z9 hz8 hz9 => zPx_x (Nat.le_trans hz8 hz9) (by first | ((simp only [cP_addTask, if_neg c1, if_pos c7, if_neg c19, if_pos c24, if_neg c37, if_neg c42, hq68]) <;> rfl) | contradiction))
              · have hr68 : r68 < 16 := cF_at_lt hq68
                refine zr_astore_5 hO dX6_addTask_71 (by decide) rfl ?_
                refine zr_aload_5 hO dX6_addTask_73 ?_
                refine zr_ifnonnull (tgt := 88) hO dX6_addTask_75 (by decide) ?_
                refine zr_aload_5 hO dX6_addTask_88 ?_
                refine zr_iload_1 hO dX6_addTask_90 ?_
                refine zg_putfi (c := 4) hO (zC_t hM hr68) (by have := hr68; unfold ztk; omega) (by decide) (by decide) zf_X6_71 rfl rfl dX6_addTask_91 ?_
                refine zr_aload_5 hO dX6_addTask_94 ?_
                refine zV_pc (pc' := 96) rfl ?_
                refine zr_iload_2 hO dX6_addTask_96 ?_
                refine zg_putfi (c := 4) hO (zC_t hM hr68) (by have := hr68; unfold ztk; omega) (by decide) (by decide) zf_X6_76 rfl rfl dX6_addTask_97 ?_
                refine zr_aload_5 hO dX6_addTask_100 ?_
                refine zr_getfr (c := 4) hO (by decide) (by decide) zf_X6_79 (zC_t hM hr68) rfl rfl dX6_addTask_102 ?_
                refine zr_iload_3 hO dX6_addTask_105 ?_
                refine zg_putfi (c := 1) hO (zC_p hM hr68) (by have := hr68; unfold ztk; omega) (by decide) (by decide) zf_X6_83 rfl rfl dX6_addTask_106 ?_
                refine zr_aload_0 hO dX6_addTask_109 ?_
                refine zV_pc (pc' := 110) rfl ?_
                refine zr_getfr (c := 6) hO (by decide) (by decide) zf_X6_10 hX rfl rfl dX6_addTask_110 ?_
                refine zr_iload_4 hO dX6_addTask_113 ?_
                refine zr_iconst (v := 1) hO dX6_addTask_115 (by decide) ?_
                refine zr_iadd hO dX6_addTask_116 ?_
                refine zg_putfi0 (c := 0) hO (zC_0 hM) (by decide) (by decide) (by decide) zf_X6_59 rfl rfl dX6_addTask_117 ?_
                refine zr_iload_4 hO dX6_addTask_120 ?_
                exact zr_ireturn hO hE dX6_addTask_122 (fun z9 hz9 => zPx_i hz9 (by first | ((simp only [cP_addTask, if_neg c1, if_pos c7, if_neg c19, if_pos c24, if_neg c37, if_neg c42, hq68]) <;> rfl) | contradiction))
set_option maxRecDepth 100000 in
set_option maxHeartbeats 400000 in
theorem e_X6_addStep {l : Launch} {G : zGm} {d n x o q : Nat} {ly : zLy} {τ : zTu} {σ M : zSg} {t a b : Int32} (htr : l.stackTraces = false) (hX : ly x = (6 + 5, 2, zcr6 o q)) (hM : zC ly o) (hd : 7 ≤ d)  : zEv l G d 1 6 (yX6_addStep, cX6_addStep, 6, some .int) [.ref x, .int t, .int a, .int b] (fun x => n ≤ x) ly τ (zwr σ o 95 M) (zPx n ly τ σ o M (cP_addStep M t a b)) := by
  refine zEv_of (ls := [some (.ref x), some (.int t), some (.int a), some (.int b), none, none, none, none, none]) htr (by decide) (Nat.le_of_ble_eq_true rfl) rfl (fun X hO hE hN hRm hL hNm => ?_)
  have hO : zOk G X RX6 cX6_addStep 6 := hO
  refine zr_aload_0 hO dX6_addStep_0 ?_
  refine zr_iload_1 hO dX6_addStep_1 ?_
  rcases hq2 : cF_rt M t with _ | r2
  · refine zr_VT1 (D := d) hO hRm hL (by omega) (by decide) (c := 6) (by decide) hX rfl rfl (e_X6_requireTask_x (d := d - 1) htr hX hM (by omega) hq2) zl_X6_88 zi_X6_requireTask zs_X6_requireTask zc_X6_requireTask zn_X6 zd_X6_requireTask (Nat.le_of_ble_eq_true rfl) dX6_addStep_2 (by omega) (by omega) ?_
    exact zX_out hO hE hN (fun z9 hz9 => zPx_x hz9 (by first | ((simp only [cP_addStep, hq2]) <;> rfl) | contradiction))
  · have hr2 : r2 < 16 := cF_rt_lt hq2
    refine zr_V1 (D := d) hO hRm hL (by omega) (by decide) (c := 6) (by decide) hX rfl rfl (e_X6_requireTask_ok (d := d - 1) htr hX hM (by omega) hq2) zl_X6_88 zi_X6_requireTask zs_X6_requireTask zc_X6_requireTask zn_X6 zd_X6_requireTask (Nat.le_of_ble_eq_true rfl) dX6_addStep_2 (by omega) (by omega) ?_
    refine zr_astore_4 hO dX6_addStep_5 (by decide) rfl ?_
    refine zr_iload_2 hO dX6_addStep_7 ?_
    refine zr_iload_3 hO dX6_addStep_8 ?_
    refine zr_S2 (D := d) hO hRm hL (by omega) (by decide) rfl (e_X6_isStep (d := d - 1) htr (by omega)) zl_X6_91 zt_X6_isStep zc_X6_isStep zn_X6 zd_X6_isStep (Nat.le_of_ble_eq_true rfl) dX6_addStep_9 (by omega) (by omega) ?_
    rcases hq12 : cF_isStep a b with _ | _
    · refine zr_ST1 (D := d) hO hRm hL (by omega) (by decide) rfl (e_X6_requireArgument0 (d := d - 1) htr (by omega)) zl_X6_19 zt_X6_requireArgument zc_X6_requireArgument zn_X6 zd_X6_requireArgument (Nat.le_of_ble_eq_true rfl) dX6_addStep_12 (by omega) (by omega) ?_
      exact zX_out hO hE hN (fun z9 hz9 => zPx_x hz9 (by first | ((simp only [cP_addStep, hq2, hq12]) <;> rfl) | contradiction))
    · refine zr_S1 (D := d) hO hRm hL (by omega) (by decide) rfl (e_X6_requireArgument1 (d := d - 1) htr (by omega)) zl_X6_19 zt_X6_requireArgument zc_X6_requireArgument zn_X6 zd_X6_requireArgument (Nat.le_of_ble_eq_true rfl) dX6_addStep_12 (by omega) (by omega) ?_
      refine zr_aload_4 hO dX6_addStep_15 ?_
      refine zr_getfr (c := 4) hO (by decide) (by decide) zf_X6_79 (zC_t hM hr2) rfl rfl dX6_addStep_17 ?_
      refine zr_astore_5 hO dX6_addStep_20 (by decide) rfl ?_
      refine zr_aload_4 hO dX6_addStep_22 ?_
      refine zg_getfi (c := 4) hO (zC_t hM hr2) (by have := hr2; unfold ztk; omega) (by decide) (by decide) zf_X6_95 rfl dX6_addStep_24 ?_
      refine zr_if_ne (tgt := 44) hO dX6_addStep_27 (by decide) (fun c27 => ?_) (fun c27 => ?_)
      · refine zr_iconst (v := 0) hO dX6_addStep_44 (by decide) ?_
        refine zr_ST1 (D := d) hO hRm hL (by omega) (by decide) rfl (e_X6_requireState0 (d := d - 1) htr (by omega)) zl_X6_101 zt_X6_requireState zc_X6_requireState zn_X6 zd_X6_requireState (Nat.le_of_ble_eq_true rfl) dX6_addStep_45 (by omega) (by omega) ?_
        exact zX_out hO hE hN (fun z9 hz9 => zPx_x hz9 (by first | ((simp only [cP_addStep, hq2, hq12, if_neg c27]) <;> rfl) | contradiction))
      · refine zr_aload_5 hO dX6_addStep_30 ?_
        refine zg_getfi (c := 1) hO (zC_p hM hr2) (by have := hr2; unfold ztk; omega) (by decide) (by decide) zf_X6_98 rfl dX6_addStep_32 ?_
        refine zr_bipush (v := 16) hO dX6_addStep_35 (by decide) ?_
        refine zr_icmp_ge (tgt := 44) hO dX6_addStep_37 (by decide) (fun c37 => ?_) (fun c37 => ?_)
        · refine zr_iconst (v := 0) hO dX6_addStep_44 (by decide) ?_
          refine zr_ST1 (D := d) hO hRm hL (by omega) (by decide) rfl (e_X6_requireState0 (d := d - 1) htr (by omega)) zl_X6_101 zt_X6_requireState zc_X6_requireState zn_X6 zd_X6_requireState (Nat.le_of_ble_eq_true rfl) dX6_addStep_45 (by omega) (by omega) ?_
          exact zX_out hO hE hN (fun z9 hz9 => zPx_x hz9 (by first | ((simp only [cP_addStep, hq2, hq12, if_pos c27, if_neg c37]) <;> rfl) | contradiction))
        · refine zr_iconst (v := 1) hO dX6_addStep_40 (by decide) ?_
          refine zr_goto (tgt := 45) hO dX6_addStep_41 (by decide) ?_
          refine zr_S1 (D := d) hO hRm hL (by omega) (by decide) rfl (e_X6_requireState1 (d := d - 1) htr (by omega)) zl_X6_101 zt_X6_requireState zc_X6_requireState zn_X6 zd_X6_requireState (Nat.le_of_ble_eq_true rfl) dX6_addStep_45 (by omega) (by omega) ?_
          refine zr_aload_5 hO dX6_addStep_48 ?_
          refine zr_iload_2 hO dX6_addStep_50 ?_
          refine zr_iload_3 hO dX6_addStep_51 ?_
          refine zr_V2 (D := d) hO hRm hL (by omega) (by decide) (c := 1) (by decide) (zC_p hM hr2) rfl rfl (e_X1_append (d := d - 1) htr hM (by omega) hr2) zl_X6_104 zi_X1_append zs_X1_append zc_X1_append zn_X1 zd_X1_append (Nat.le_of_ble_eq_true rfl) dX6_addStep_52 (by omega) (by omega) ?_
          refine zr_aload_5 hO dX6_addStep_55 ?_
          refine zg_getfi (c := 1) hO (zC_p hM hr2) (by have := hr2; unfold ztk; omega) (by decide) (by decide) zf_X6_98 rfl dX6_addStep_57 ?_
          exact zr_ireturn hO hE dX6_addStep_60 (fun z9 hz9 => zPx_i hz9 (by first | ((simp only [cP_addStep, hq2, hq12, if_pos c27, if_pos c37]) <;> rfl) | contradiction))
set_option maxRecDepth 100000 in
set_option maxHeartbeats 400000 in
theorem e_X6_start {l : Launch} {G : zGm} {d n x o q : Nat} {ly : zLy} {τ : zTu} {σ M : zSg} {t : Int32} (htr : l.stackTraces = false) (hX : ly x = (6 + 5, 2, zcr6 o q)) (hM : zC ly o) (hd : 7 ≤ d)  : zEv l G d 1 6 (yX6_start, cX6_start, 3, some .int) [.ref x, .int t] (fun x => n ≤ x) ly τ (zwr σ o 95 M) (zPx n ly τ σ o M (cP_start M t)) := by
  refine zEv_of (ls := [some (.ref x), some (.int t), none, none, none, none, none, none, none]) htr (by decide) (Nat.le_of_ble_eq_true rfl) rfl (fun X hO hE hN hRm hL hNm => ?_)
  have hO : zOk G X RX6 cX6_start 3 := hO
  refine zr_aload_0 hO dX6_start_0 ?_
  refine zr_iload_1 hO dX6_start_1 ?_
  rcases hq2 : cF_rt M t with _ | r2
  · refine zr_VT1 (D := d) hO hRm hL (by omega) (by decide) (c := 6) (by decide) hX rfl rfl (e_X6_requireTask_x (d := d - 1) htr hX hM (by omega) hq2) zl_X6_88 zi_X6_requireTask zs_X6_requireTask zc_X6_requireTask zn_X6 zd_X6_requireTask (Nat.le_of_ble_eq_true rfl) dX6_start_2 (by omega) (by omega) ?_
    exact zX_out hO hE hN (fun z9 hz9 => zPx_x hz9 (by first | ((simp only [cP_start, hq2]) <;> rfl) | contradiction))
  · have hr2 : r2 < 16 := cF_rt_lt hq2
    refine zr_V1 (D := d) hO hRm hL (by omega) (by decide) (c := 6) (by decide) hX rfl rfl (e_X6_requireTask_ok (d := d - 1) htr hX hM (by omega) hq2) zl_X6_88 zi_X6_requireTask zs_X6_requireTask zc_X6_requireTask zn_X6 zd_X6_requireTask (Nat.le_of_ble_eq_true rfl) dX6_start_2 (by omega) (by omega) ?_
    refine zr_astore_2 hO dX6_start_5 (by decide) rfl ?_
    refine zr_aload_2 hO dX6_start_6 ?_
    refine zg_getfi (c := 4) hO (zC_t hM hr2) (by have := hr2; unfold ztk; omega) (by decide) (by decide) zf_X6_95 rfl dX6_start_7 ?_
    refine zr_if_ne (tgt := 27) hO dX6_start_10 (by decide) (fun c10 => ?_) (fun c10 => ?_)
    · refine zr_iconst (v := 0) hO dX6_start_27 (by decide) ?_
      refine zr_ST1 (D := d) hO hRm hL (by omega) (by decide) rfl (e_X6_requireState0 (d := d - 1) htr (by omega)) zl_X6_101 zt_X6_requireState zc_X6_requireState zn_X6 zd_X6_requireState (Nat.le_of_ble_eq_true rfl) dX6_start_28 (by omega) (by omega) ?_
      exact zX_out hO hE hN (fun z9 hz9 => zPx_x hz9 (by first | ((simp only [cP_start, hq2, if_neg c10]) <;> rfl) | contradiction))
    · refine zr_aload_2 hO dX6_start_13 ?_
      refine zr_getfr (c := 4) hO (by decide) (by decide) zf_X6_79 (zC_t hM hr2) rfl rfl dX6_start_14 ?_
      refine zr_V0 (D := d) hO hRm hL (by omega) (by decide) (c := 1) (by decide) (zC_p hM hr2) rfl rfl (e_X1_endsWithRun (d := d - 1) htr hM (by omega) hr2) zl_X6_108 zi_X1_endsWithRun zs_X1_endsWithRun zc_X1_endsWithRun zn_X1 zd_X1_endsWithRun (Nat.le_of_ble_eq_true rfl) dX6_start_17 (by omega) (by omega) ?_
      refine zr_ifb_eq (tgt := 27) hO dX6_start_20 (by decide) (fun c20 => ?_) (fun c20 => ?_)
      · refine zr_iconst (v := 0) hO dX6_start_27 (by decide) ?_
        refine zr_ST1 (D := d) hO hRm hL (by omega) (by decide) rfl (e_X6_requireState0 (d := d - 1) htr (by omega)) zl_X6_101 zt_X6_requireState zc_X6_requireState zn_X6 zd_X6_requireState (Nat.le_of_ble_eq_true rfl) dX6_start_28 (by omega) (by omega) ?_
        exact zX_out hO hE hN (fun z9 hz9 => zPx_x hz9 (by first | ((simp only [cP_start, hq2, if_pos c10, if_neg (zif_f c20)]) <;> rfl) | contradiction))
      · refine zr_iconst (v := 1) hO dX6_start_23 (by decide) ?_
        refine zr_goto (tgt := 28) hO dX6_start_24 (by decide) ?_
        refine zr_S1 (D := d) hO hRm hL (by omega) (by decide) rfl (e_X6_requireState1 (d := d - 1) htr (by omega)) zl_X6_101 zt_X6_requireState zc_X6_requireState zn_X6 zd_X6_requireState (Nat.le_of_ble_eq_true rfl) dX6_start_28 (by omega) (by omega) ?_
        refine zr_aload_0 hO dX6_start_31 ?_
        refine zr_getfr (c := 6) hO (by decide) (by decide) zf_X6_10 hX rfl rfl dX6_start_32 ?_
        refine zr_aload_2 hO dX6_start_35 ?_
        refine zr_V1 (D := d) hO hRm hL (by omega) (by decide) (c := 0) (by decide) (zC_0 hM) rfl rfl (e_X0_startTask (d := d - 1) htr hM (by omega) hr2) zl_X6_112 zi_X0_startTask zs_X0_startTask zc_X0_startTask zn_X0 zd_X0_startTask (Nat.le_of_ble_eq_true rfl) dX6_start_36 (by omega) (by omega) ?_
        refine zr_aload_2 hO dX6_start_39 ?_
        refine zg_getfi (c := 4) hO (zC_t hM hr2) (by have := hr2; unfold ztk; omega) (by decide) (by decide) zf_X6_116 rfl dX6_start_40 ?_
        exact zr_ireturn hO hE dX6_start_43 (fun z9 hz9 => zPx_i hz9 (by first | ((simp only [cP_start, hq2, if_pos c10, if_pos c20]) <;> rfl) | contradiction))
set_option maxRecDepth 100000 in
set_option maxHeartbeats 400000 in
theorem e_X6_setRank {l : Launch} {G : zGm} {d n x o q : Nat} {ly : zLy} {τ : zTu} {σ M : zSg} {t r : Int32} (htr : l.stackTraces = false) (hX : ly x = (6 + 5, 2, zcr6 o q)) (hM : zC ly o) (hd : 7 ≤ d)  : zEv l G d 1 6 (yX6_setRank, cX6_setRank, 5, some .int) [.ref x, .int t, .int r] (fun x => n ≤ x) ly τ (zwr σ o 95 M) (zPx n ly τ σ o M (cP_setRank M t r)) := by
  refine zEv_of (ls := [some (.ref x), some (.int t), some (.int r), none, none, none, none, none, none]) htr (by decide) (Nat.le_of_ble_eq_true rfl) rfl (fun X hO hE hN hRm hL hNm => ?_)
  have hO : zOk G X RX6 cX6_setRank 5 := hO
  refine zr_aload_0 hO dX6_setRank_0 ?_
  refine zr_iload_1 hO dX6_setRank_1 ?_
  rcases hq2 : cF_rt M t with _ | r2
  · refine zr_VT1 (D := d) hO hRm hL (by omega) (by decide) (c := 6) (by decide) hX rfl rfl (e_X6_requireTask_x (d := d - 1) htr hX hM (by omega) hq2) zl_X6_88 zi_X6_requireTask zs_X6_requireTask zc_X6_requireTask zn_X6 zd_X6_requireTask (Nat.le_of_ble_eq_true rfl) dX6_setRank_2 (by omega) (by omega) ?_
    exact zX_out hO hE hN (fun z9 hz9 => zPx_x hz9 (by first | ((simp only [cP_setRank, hq2]) <;> rfl) | contradiction))
  · have hr2 : r2 < 16 := cF_rt_lt hq2
    refine zr_V1 (D := d) hO hRm hL (by omega) (by decide) (c := 6) (by decide) hX rfl rfl (e_X6_requireTask_ok (d := d - 1) htr hX hM (by omega) hq2) zl_X6_88 zi_X6_requireTask zs_X6_requireTask zc_X6_requireTask zn_X6 zd_X6_requireTask (Nat.le_of_ble_eq_true rfl) dX6_setRank_2 (by omega) (by omega) ?_
    refine zr_astore_3 hO dX6_setRank_5 (by decide) rfl ?_
    refine zr_iload_2 hO dX6_setRank_6 ?_
    refine zr_if_lt (tgt := 20) hO dX6_setRank_7 (by decide) (fun c7 => ?_) (fun c7 => ?_)
    · refine zr_iconst (v := 0) hO dX6_setRank_20 (by decide) ?_
      refine zr_ST1 (D := d) hO hRm hL (by omega) (by decide) rfl (e_X6_requireArgument0 (d := d - 1) htr (by omega)) zl_X6_19 zt_X6_requireArgument zc_X6_requireArgument zn_X6 zd_X6_requireArgument (Nat.le_of_ble_eq_true rfl) dX6_setRank_21 (by omega) (by omega) ?_
      exact zX_out hO hE hN (fun z9 hz9 => zPx_x hz9 (by first | ((simp only [cP_setRank, hq2, if_pos c7]) <;> rfl) | contradiction))
    · refine zr_iload_2 hO dX6_setRank_10 ?_
      refine zr_bipush (v := 8) hO dX6_setRank_11 (by decide) ?_
      refine zr_icmp_ge (tgt := 20) hO dX6_setRank_13 (by decide) (fun c13 => ?_) (fun c13 => ?_)
      · refine zr_iconst (v := 0) hO dX6_setRank_20 (by decide) ?_
        refine zr_ST1 (D := d) hO hRm hL (by omega) (by decide) rfl (e_X6_requireArgument0 (d := d - 1) htr (by omega)) zl_X6_19 zt_X6_requireArgument zc_X6_requireArgument zn_X6 zd_X6_requireArgument (Nat.le_of_ble_eq_true rfl) dX6_setRank_21 (by omega) (by omega) ?_
        exact zX_out hO hE hN (fun z9 hz9 => zPx_x hz9 (by first | ((simp only [cP_setRank, hq2, if_neg c7, if_neg c13]) <;> rfl) | contradiction))
      · refine zr_iconst (v := 1) hO dX6_setRank_16 (by decide) ?_
        refine zr_goto (tgt := 21) hO dX6_setRank_17 (by decide) ?_
        refine zr_S1 (D := d) hO hRm hL (by omega) (by decide) rfl (e_X6_requireArgument1 (d := d - 1) htr (by omega)) zl_X6_19 zt_X6_requireArgument zc_X6_requireArgument zn_X6 zd_X6_requireArgument (Nat.le_of_ble_eq_true rfl) dX6_setRank_21 (by omega) (by omega) ?_
        refine zr_aload_3 hO dX6_setRank_24 ?_
        refine zg_getfi (c := 4) hO (zC_t hM hr2) (by have := hr2; unfold ztk; omega) (by decide) (by decide) zf_X6_71 rfl dX6_setRank_25 ?_
        refine zr_istore_4 hO dX6_setRank_28 (by decide) rfl ?_
        refine zr_aload_3 hO dX6_setRank_30 ?_
        refine zr_iload_2 hO dX6_setRank_31 ?_
        refine zg_putfi (c := 4) hO (zC_t hM hr2) (by have := hr2; unfold ztk; omega) (by decide) (by decide) zf_X6_71 rfl rfl dX6_setRank_32 ?_
        refine zr_iload_4 hO dX6_setRank_35 ?_
        refine zV_pc (pc' := 37) rfl ?_
        exact zr_ireturn hO hE dX6_setRank_37 (fun z9 hz9 => zPx_i hz9 (by first | ((simp only [cP_setRank, hq2, if_neg c7, if_pos c13]) <;> rfl) | contradiction))
set_option maxRecDepth 100000 in
set_option maxHeartbeats 400000 in
theorem e_X6_end {l : Launch} {G : zGm} {d n x o q : Nat} {ly : zLy} {τ : zTu} {σ M : zSg} {t : Int32} (htr : l.stackTraces = false) (hX : ly x = (6 + 5, 2, zcr6 o q)) (hM : zC ly o) (hd : 7 ≤ d)  : zEv l G d 1 6 (yX6_end, cX6_end, 4, some .int) [.ref x, .int t] (fun x => n ≤ x) ly τ (zwr σ o 95 M) (zPx n ly τ σ o M (cP_end M t)) := by
  refine zEv_of (ls := [some (.ref x), some (.int t), none, none, none, none, none, none, none]) htr (by decide) (Nat.le_of_ble_eq_true rfl) rfl (fun X hO hE hN hRm hL hNm => ?_)
  have hO : zOk G X RX6 cX6_end 4 := hO
  refine zr_aload_0 hO dX6_end_0 ?_
  refine zr_iload_1 hO dX6_end_1 ?_
  rcases hq2 : cF_rt M t with _ | r2
  · refine zr_VT1 (D := d) hO hRm hL (by omega) (by decide) (c := 6) (by decide) hX rfl rfl (e_X6_requireTask_x (d := d - 1) htr hX hM (by omega) hq2) zl_X6_88 zi_X6_requireTask zs_X6_requireTask zc_X6_requireTask zn_X6 zd_X6_requireTask (Nat.le_of_ble_eq_true rfl) dX6_end_2 (by omega) (by omega) ?_
    exact zX_out hO hE hN (fun z9 hz9 => zPx_x hz9 (by first | ((simp only [cP_end, hq2]) <;> rfl) | contradiction))
  · have hr2 : r2 < 16 := cF_rt_lt hq2
    refine zr_V1 (D := d) hO hRm hL (by omega) (by decide) (c := 6) (by decide) hX rfl rfl (e_X6_requireTask_ok (d := d - 1) htr hX hM (by omega) hq2) zl_X6_88 zi_X6_requireTask zs_X6_requireTask zc_X6_requireTask zn_X6 zd_X6_requireTask (Nat.le_of_ble_eq_true rfl) dX6_end_2 (by omega) (by omega) ?_
    refine zr_astore_2 hO dX6_end_5 (by decide) rfl ?_
    refine zr_aload_2 hO dX6_end_6 ?_
    refine zg_getfi (c := 4) hO (zC_t hM hr2) (by have := hr2; unfold ztk; omega) (by decide) (by decide) zf_X6_95 rfl dX6_end_7 ?_
    refine zr_bipush (v := 6) hO dX6_end_10 (by decide) ?_
    refine zr_icmp_eq (tgt := 19) hO dX6_end_12 (by decide) (fun c12 => ?_) (fun c12 => ?_)
    · refine zr_iconst (v := 0) hO dX6_end_19 (by decide) ?_
      refine zr_ST1 (D := d) hO hRm hL (by omega) (by decide) rfl (e_X6_requireState0 (d := d - 1) htr (by omega)) zl_X6_101 zt_X6_requireState zc_X6_requireState zn_X6 zd_X6_requireState (Nat.le_of_ble_eq_true rfl) dX6_end_20 (by omega) (by omega) ?_
      exact zX_out hO hE hN (fun z9 hz9 => zPx_x hz9 (by first | ((simp only [cP_end, hq2, if_pos c12]) <;> rfl) | contradiction))
    · refine zr_iconst (v := 1) hO dX6_end_15 (by decide) ?_
      refine zr_goto (tgt := 20) hO dX6_end_16 (by decide) ?_
      refine zr_S1 (D := d) hO hRm hL (by omega) (by decide) rfl (e_X6_requireState1 (d := d - 1) htr (by omega)) zl_X6_101 zt_X6_requireState zc_X6_requireState zn_X6 zd_X6_requireState (Nat.le_of_ble_eq_true rfl) dX6_end_20 (by omega) (by omega) ?_
      refine zr_aload_2 hO dX6_end_23 ?_
      refine zg_getfi (c := 4) hO (zC_t hM hr2) (by have := hr2; unfold ztk; omega) (by decide) (by decide) zf_X6_95 rfl dX6_end_24 ?_
      refine zr_istore_3 hO dX6_end_27 (by decide) rfl ?_
      refine zr_aload_0 hO dX6_end_28 ?_
      refine zr_getfr (c := 6) hO (by decide) (by decide) zf_X6_10 hX rfl rfl dX6_end_29 ?_
      refine zr_aload_2 hO dX6_end_32 ?_
      refine zr_V1 (D := d) hO hRm hL (by omega) (by decide) (c := 0) (by decide) (zC_0 hM) rfl rfl (e_X0_finish (d := d - 1) htr hM (by omega) hr2) zl_X6_119 zi_X0_finish zs_X0_finish zc_X0_finish zn_X0 zd_X0_finish (Nat.le_of_ble_eq_true rfl) dX6_end_33 (by omega) (by omega) ?_
      refine zV_pc (pc' := 36) rfl ?_
      refine zr_iload_3 hO dX6_end_36 ?_
      exact zr_ireturn hO hE dX6_end_37 (fun z9 hz9 => zPx_i hz9 (by first | ((simp only [cP_end, hq2, if_neg c12]) <;> rfl) | contradiction))
set_option maxRecDepth 100000 in
set_option maxHeartbeats 400000 in
theorem e_X6_signal {l : Launch} {G : zGm} {d n x o q : Nat} {ly : zLy} {τ : zTu} {σ M : zSg} {t : Int32} (htr : l.stackTraces = false) (hX : ly x = (6 + 5, 2, zcr6 o q)) (hM : zC ly o) (hd : 7 ≤ d)  : zEv l G d 1 6 (yX6_signal, cX6_signal, 2, some .int) [.ref x, .int t] (fun x => n ≤ x) ly τ (zwr σ o 95 M) (zPx n ly τ σ o M (cP_signal M t)) := by
  refine zEv_of (ls := [some (.ref x), some (.int t), none, none, none, none, none, none, none]) htr (by decide) (Nat.le_of_ble_eq_true rfl) rfl (fun X hO hE hN hRm hL hNm => ?_)
  have hO : zOk G X RX6 cX6_signal 2 := hO
  refine zr_iload_1 hO dX6_signal_0 ?_
  rcases hq1 : cR_lock t with _ | E1
  · refine zr_S1 (D := d) hO hRm hL (by omega) (by decide) rfl (e_X6_requireEvent_ok (d := d - 1) htr (by omega) hq1) zl_X6_122 zt_X6_requireEvent zc_X6_requireEvent zn_X6 zd_X6_requireEvent (Nat.le_of_ble_eq_true rfl) dX6_signal_1 (by omega) (by omega) ?_
    refine zr_aload_0 hO dX6_signal_4 ?_
    refine zr_getfr (c := 6) hO (by decide) (by decide) zf_X6_10 hX rfl rfl dX6_signal_5 ?_
    refine zr_iload_1 hO dX6_signal_8 ?_
    refine zr_V1 (D := d) hO hRm hL (by omega) (by decide) (c := 0) (by decide) (zC_0 hM) rfl rfl (e_X0_giveSignal (d := d - 1) htr hM (by omega)) zl_X6_126 zi_X0_giveSignal zs_X0_giveSignal zc_X0_giveSignal zn_X0 zd_X0_giveSignal (Nat.le_of_ble_eq_true rfl) dX6_signal_9 (by omega) (by omega) ?_
    refine zr_aload_0 hO dX6_signal_12 ?_
    refine zr_getfr (c := 6) hO (by decide) (by decide) zf_X6_10 hX rfl rfl dX6_signal_13 ?_
    refine zr_iload_1 hO dX6_signal_16 ?_
    refine zV_pc (pc' := 17) rfl ?_
    refine zr_V1 (D := d) hO hRm hL (by omega) (by decide) (c := 0) (by decide) (zC_0 hM) rfl rfl (e_X0_numberOf (d := d - 1) htr hM (by omega)) zl_X6_129 zi_X0_numberOf zs_X0_numberOf zc_X0_numberOf zn_X0 zd_X0_numberOf (Nat.le_of_ble_eq_true rfl) dX6_signal_17 (by omega) (by omega) ?_
    exact zr_ireturn hO hE dX6_signal_20 (fun z9 hz9 => zPx_i hz9 (by first | ((simp only [cP_signal, hq1]) <;> rfl) | contradiction))
  · refine zr_ST1 (D := d) hO hRm hL (by omega) (by decide) rfl (e_X6_requireEvent_x (d := d - 1) htr (by omega) hq1) zl_X6_122 zt_X6_requireEvent zc_X6_requireEvent zn_X6 zd_X6_requireEvent (Nat.le_of_ble_eq_true rfl) dX6_signal_1 (by omega) (by omega) ?_
    exact zX_out hO hE hN (fun z9 hz9 => zPx_x hz9 (by first | ((simp only [cP_signal, hq1]) <;> rfl) | contradiction))
set_option maxRecDepth 100000 in
set_option maxHeartbeats 400000 in
theorem e_X6_clock {l : Launch} {G : zGm} {d n x o q : Nat} {ly : zLy} {τ : zTu} {σ M : zSg}  (htr : l.stackTraces = false) (hX : ly x = (6 + 5, 2, zcr6 o q)) (hM : zC ly o) (hd : 4 ≤ d)  : zEv l G d 0 0 (yX6_clock, cX6_clock, 1, some .int) [.ref x] (fun x => n ≤ x) ly τ (zwr σ o 95 M) (zPl n ly τ (zwr σ o 95 M) (some (.int (M 0 9)))) := by
  refine zEv_of (ls := [some (.ref x), none, none, none, none, none, none, none, none]) htr (by decide) (Nat.le_of_ble_eq_true rfl) rfl (fun X hO hE hN hRm hL hNm => ?_)
  have hO : zOk G X RX6 cX6_clock 1 := hO
  refine zr_aload_0 hO dX6_clock_0 ?_
  refine zr_getfr (c := 6) hO (by decide) (by decide) zf_X6_10 hX rfl rfl dX6_clock_1 ?_
  refine zg_getfi0 (c := 0) hO (zC_0 hM) (by decide) (by decide) (by decide) zf_X6_136 rfl dX6_clock_4 ?_
  exact zr_ireturn hO hE dX6_clock_7 (zpl_i (by first | ((simp only []) <;> rfl) | contradiction) rfl)
set_option maxRecDepth 100000 in
set_option maxHeartbeats 400000 in
theorem e_X6_tasks {l : Launch} {G : zGm} {d n x o q : Nat} {ly : zLy} {τ : zTu} {σ M : zSg}  (htr : l.stackTraces = false) (hX : ly x = (6 + 5, 2, zcr6 o q)) (hM : zC ly o) (hd : 4 ≤ d)  : zEv l G d 0 0 (yX6_tasks, cX6_tasks, 1, some .int) [.ref x] (fun x => n ≤ x) ly τ (zwr σ o 95 M) (zPl n ly τ (zwr σ o 95 M) (some (.int (M 0 10)))) := by
  refine zEv_of (ls := [some (.ref x), none, none, none, none, none, none, none, none]) htr (by decide) (Nat.le_of_ble_eq_true rfl) rfl (fun X hO hE hN hRm hL hNm => ?_)
  have hO : zOk G X RX6 cX6_tasks 1 := hO
  refine zr_aload_0 hO dX6_tasks_0 ?_
  refine zr_getfr (c := 6) hO (by decide) (by decide) zf_X6_10 hX rfl rfl dX6_tasks_1 ?_
  refine zg_getfi0 (c := 0) hO (zC_0 hM) (by decide) (by decide) (by decide) zf_X6_59 rfl dX6_tasks_4 ?_
  exact zr_ireturn hO hE dX6_tasks_7 (zpl_i (by first | ((simp only []) <;> rfl) | contradiction) rfl)
set_option maxRecDepth 100000 in
set_option maxHeartbeats 400000 in
theorem e_X6_processors {l : Launch} {G : zGm} {d n x o q : Nat} {ly : zLy} {τ : zTu} {σ M : zSg}  (htr : l.stackTraces = false) (hX : ly x = (6 + 5, 2, zcr6 o q)) (hM : zC ly o) (hd : 4 ≤ d)  : zEv l G d 0 0 (yX6_processors, cX6_processors, 1, some .int) [.ref x] (fun x => n ≤ x) ly τ (zwr σ o 95 M) (zPl n ly τ (zwr σ o 95 M) (some (.int (M 1 0)))) := by
  refine zEv_of (ls := [some (.ref x), none, none, none, none, none, none, none, none]) htr (by decide) (Nat.le_of_ble_eq_true rfl) rfl (fun X hO hE hN hRm hL hNm => ?_)
  have hO : zOk G X RX6 cX6_processors 1 := hO
  refine zr_aload_0 hO dX6_processors_0 ?_
  refine zr_getfr (c := 6) hO (by decide) (by decide) zf_X6_10 hX rfl rfl dX6_processors_1 ?_
  refine zr_getfr (c := 0) hO (by decide) (by decide) zf_X6_23 (zC_0 hM) rfl rfl dX6_processors_4 ?_
  refine zg_getfi (c := 2) hO (zC_1 hM) (by decide) (by decide) (by decide) zf_X6_27 rfl dX6_processors_7 ?_
  exact zr_ireturn hO hE dX6_processors_10 (zpl_i (by first | ((simp only []) <;> rfl) | contradiction) rfl)
set_option maxRecDepth 100000 in
set_option maxHeartbeats 400000 in
theorem e_X6_switches {l : Launch} {G : zGm} {d n x o q : Nat} {ly : zLy} {τ : zTu} {σ M : zSg}  (htr : l.stackTraces = false) (hX : ly x = (6 + 5, 2, zcr6 o q)) (hM : zC ly o) (hd : 4 ≤ d)  : zEv l G d 0 0 (yX6_switches, cX6_switches, 1, some .int) [.ref x] (fun x => n ≤ x) ly τ (zwr σ o 95 M) (zPl n ly τ (zwr σ o 95 M) (some (.int (M 3 0)))) := by
  refine zEv_of (ls := [some (.ref x), none, none, none, none, none, none, none, none]) htr (by decide) (Nat.le_of_ble_eq_true rfl) rfl (fun X hO hE hN hRm hL hNm => ?_)
  have hO : zOk G X RX6 cX6_switches 1 := hO
  refine zr_aload_0 hO dX6_switches_0 ?_
  refine zr_getfr (c := 6) hO (by decide) (by decide) zf_X6_10 hX rfl rfl dX6_switches_1 ?_
  refine zr_getfr (c := 0) hO (by decide) (by decide) zf_X6_172 (zC_0 hM) rfl rfl dX6_switches_4 ?_
  refine zg_getfi (c := 5) hO (zC_3 hM) (by decide) (by decide) (by decide) zf_X6_182 rfl dX6_switches_7 ?_
  exact zr_ireturn hO hE dX6_switches_10 (zpl_i (by first | ((simp only []) <;> rfl) | contradiction) rfl)
set_option maxRecDepth 100000 in
set_option maxHeartbeats 400000 in
theorem e_X6_idle {l : Launch} {G : zGm} {d n x o q : Nat} {ly : zLy} {τ : zTu} {σ M : zSg}  (htr : l.stackTraces = false) (hX : ly x = (6 + 5, 2, zcr6 o q)) (hM : zC ly o) (hd : 4 ≤ d)  : zEv l G d 0 0 (yX6_idle, cX6_idle, 1, some .int) [.ref x] (fun x => n ≤ x) ly τ (zwr σ o 95 M) (zPl n ly τ (zwr σ o 95 M) (some (.int (M 3 1)))) := by
  refine zEv_of (ls := [some (.ref x), none, none, none, none, none, none, none, none]) htr (by decide) (Nat.le_of_ble_eq_true rfl) rfl (fun X hO hE hN hRm hL hNm => ?_)
  have hO : zOk G X RX6 cX6_idle 1 := hO
  refine zr_aload_0 hO dX6_idle_0 ?_
  refine zr_getfr (c := 6) hO (by decide) (by decide) zf_X6_10 hX rfl rfl dX6_idle_1 ?_
  refine zr_getfr (c := 0) hO (by decide) (by decide) zf_X6_172 (zC_0 hM) rfl rfl dX6_idle_4 ?_
  refine zg_getfi (c := 5) hO (zC_3 hM) (by decide) (by decide) (by decide) zf_X6_185 rfl dX6_idle_7 ?_
  exact zr_ireturn hO hE dX6_idle_10 (zpl_i (by first | ((simp only []) <;> rfl) | contradiction) rfl)
set_option maxRecDepth 100000 in
set_option maxHeartbeats 400000 in
theorem e_X6_stuck {l : Launch} {G : zGm} {d n x o q : Nat} {ly : zLy} {τ : zTu} {σ M : zSg}  (htr : l.stackTraces = false) (hX : ly x = (6 + 5, 2, zcr6 o q)) (hM : zC ly o) (hd : 4 ≤ d)  : zEv l G d 0 0 (yX6_stuck, cX6_stuck, 1, some .int) [.ref x] (fun x => n ≤ x) ly τ (zwr σ o 95 M) (zPl n ly τ (zwr σ o 95 M) (some (.int (cF_stuck M)))) := by
  refine zEv_of (ls := [some (.ref x), none, none, none, none, none, none, none, none]) htr (by decide) (Nat.le_of_ble_eq_true rfl) rfl (fun X hO hE hN hRm hL hNm => ?_)
  have hO : zOk G X RX6 cX6_stuck 1 := hO
  refine zr_aload_0 hO dX6_stuck_0 ?_
  refine zr_getfr (c := 6) hO (by decide) (by decide) zf_X6_10 hX rfl rfl dX6_stuck_1 ?_
  refine zr_V0 (D := d) hO hRm hL (by omega) (by decide) (c := 0) (by decide) (zC_0 hM) rfl rfl (e_X0_stuckTasks (d := d - 1) htr hM (by omega)) zl_X6_200 zi_X0_stuckTasks zs_X0_stuckTasks zc_X0_stuckTasks zn_X0 zd_X0_stuckTasks (Nat.le_of_ble_eq_true rfl) dX6_stuck_4 (by omega) (by omega) ?_
  exact zr_ireturn hO hE dX6_stuck_7 (zpl_i (by first | ((simp only []) <;> rfl) | contradiction) rfl)
set_option maxRecDepth 100000 in
set_option maxHeartbeats 400000 in
theorem e_X6_stateOf {l : Launch} {G : zGm} {d n x o q : Nat} {ly : zLy} {τ : zTu} {σ M : zSg} {t : Int32} (htr : l.stackTraces = false) (hX : ly x = (6 + 5, 2, zcr6 o q)) (hM : zC ly o) (hd : 7 ≤ d)  : zEv l G d 1 6 (yX6_stateOf, cX6_stateOf, 2, some .int) [.ref x, .int t] (fun x => n ≤ x) ly τ (zwr σ o 95 M) (zPx n ly τ σ o M (cP_of M t (fun i => M (ztk i) 5))) := by
  refine zEv_of (ls := [some (.ref x), some (.int t), none, none, none, none, none, none, none]) htr (by decide) (Nat.le_of_ble_eq_true rfl) rfl (fun X hO hE hN hRm hL hNm => ?_)
  have hO : zOk G X RX6 cX6_stateOf 2 := hO
  refine zr_aload_0 hO dX6_stateOf_0 ?_
  refine zr_iload_1 hO dX6_stateOf_1 ?_
  rcases hq2 : cF_rt M t with _ | r2
  · refine zr_VT1 (D := d) hO hRm hL (by omega) (by decide) (c := 6) (by decide) hX rfl rfl (e_X6_requireTask_x (d := d - 1) htr hX hM (by omega) hq2) zl_X6_88 zi_X6_requireTask zs_X6_requireTask zc_X6_requireTask zn_X6 zd_X6_requireTask (Nat.le_of_ble_eq_true rfl) dX6_stateOf_2 (by omega) (by omega) ?_
    exact zX_out hO hE hN (fun z9 hz9 => zPx_x hz9 (by first | ((simp only [cP_of, hq2]) <;> rfl) | contradiction))
  · have hr2 : r2 < 16 := cF_rt_lt hq2
    refine zr_V1 (D := d) hO hRm hL (by omega) (by decide) (c := 6) (by decide) hX rfl rfl (e_X6_requireTask_ok (d := d - 1) htr hX hM (by omega) hq2) zl_X6_88 zi_X6_requireTask zs_X6_requireTask zc_X6_requireTask zn_X6 zd_X6_requireTask (Nat.le_of_ble_eq_true rfl) dX6_stateOf_2 (by omega) (by omega) ?_
    refine zg_getfi (c := 4) hO (zC_t hM hr2) (by have := hr2; unfold ztk; omega) (by decide) (by decide) zf_X6_95 rfl dX6_stateOf_5 ?_
    exact zr_ireturn hO hE dX6_stateOf_8 (fun z9 hz9 => zPx_i hz9 (by first | ((simp only [cP_of, hq2]) <;> rfl) | contradiction))
set_option maxRecDepth 100000 in
set_option maxHeartbeats 400000 in
theorem e_X6_stepOf {l : Launch} {G : zGm} {d n x o q : Nat} {ly : zLy} {τ : zTu} {σ M : zSg} {t : Int32} (htr : l.stackTraces = false) (hX : ly x = (6 + 5, 2, zcr6 o q)) (hM : zC ly o) (hd : 7 ≤ d)  : zEv l G d 1 6 (yX6_stepOf, cX6_stepOf, 3, some .int) [.ref x, .int t] (fun x => n ≤ x) ly τ (zwr σ o 95 M) (zPx n ly τ σ o M (cP_of M t (fun i => cF_stepOf M i))) := by
  refine zEv_of (ls := [some (.ref x), some (.int t), none, none, none, none, none, none, none]) htr (by decide) (Nat.le_of_ble_eq_true rfl) rfl (fun X hO hE hN hRm hL hNm => ?_)
  have hO : zOk G X RX6 cX6_stepOf 3 := hO
  refine zr_aload_0 hO dX6_stepOf_0 ?_
  refine zr_iload_1 hO dX6_stepOf_1 ?_
  rcases hq2 : cF_rt M t with _ | r2
  · refine zr_VT1 (D := d) hO hRm hL (by omega) (by decide) (c := 6) (by decide) hX rfl rfl (e_X6_requireTask_x (d := d - 1) htr hX hM (by omega) hq2) zl_X6_88 zi_X6_requireTask zs_X6_requireTask zc_X6_requireTask zn_X6 zd_X6_requireTask (Nat.le_of_ble_eq_true rfl) dX6_stepOf_2 (by omega) (by omega) ?_
    exact zX_out hO hE hN (fun z9 hz9 => zPx_x hz9 (by first | ((simp only [cP_of, cF_stepOf, hq2]) <;> rfl) | contradiction))
  · have hr2 : r2 < 16 := cF_rt_lt hq2
    refine zr_V1 (D := d) hO hRm hL (by omega) (by decide) (c := 6) (by decide) hX rfl rfl (e_X6_requireTask_ok (d := d - 1) htr hX hM (by omega) hq2) zl_X6_88 zi_X6_requireTask zs_X6_requireTask zc_X6_requireTask zn_X6 zd_X6_requireTask (Nat.le_of_ble_eq_true rfl) dX6_stepOf_2 (by omega) (by omega) ?_
    refine zr_astore_2 hO dX6_stepOf_5 (by decide) rfl ?_
    refine zr_aload_2 hO dX6_stepOf_6 ?_
    refine zg_getfi (c := 4) hO (zC_t hM hr2) (by have := hr2; unfold ztk; omega) (by decide) (by decide) zf_X6_95 rfl dX6_stepOf_7 ?_
    refine zr_bipush (v := 6) hO dX6_stepOf_10 (by decide) ?_
    refine zr_icmp_ne (tgt := 25) hO dX6_stepOf_12 (by decide) (fun c12 => ?_) (fun c12 => ?_)
    · refine zr_aload_2 hO dX6_stepOf_25 ?_
      refine zg_getfi (c := 4) hO (zC_t hM hr2) (by have := hr2; unfold ztk; omega) (by decide) (by decide) zf_X6_139 rfl dX6_stepOf_26 ?_
      exact zr_ireturn hO hE dX6_stepOf_29 (fun z9 hz9 => zPx_i hz9 (by first | ((simp only [cP_of, cF_stepOf, hq2, if_neg c12]) <;> rfl) | contradiction))
    · refine zr_aload_2 hO dX6_stepOf_15 ?_
      refine zr_getfr (c := 4) hO (by decide) (by decide) zf_X6_79 (zC_t hM hr2) rfl rfl dX6_stepOf_16 ?_
      refine zg_getfi (c := 1) hO (zC_p hM hr2) (by have := hr2; unfold ztk; omega) (by decide) (by decide) zf_X6_98 rfl dX6_stepOf_19 ?_
      refine zr_goto (tgt := 29) hO dX6_stepOf_22 (by decide) ?_
      exact zr_ireturn hO hE dX6_stepOf_29 (fun z9 hz9 => zPx_i hz9 (by first | ((simp only [cP_of, cF_stepOf, hq2, if_pos c12]) <;> rfl) | contradiction))
set_option maxRecDepth 100000 in
set_option maxHeartbeats 400000 in
theorem e_X6_roundsOf {l : Launch} {G : zGm} {d n x o q : Nat} {ly : zLy} {τ : zTu} {σ M : zSg} {t : Int32} (htr : l.stackTraces = false) (hX : ly x = (6 + 5, 2, zcr6 o q)) (hM : zC ly o) (hd : 7 ≤ d)  : zEv l G d 1 6 (yX6_roundsOf, cX6_roundsOf, 2, some .int) [.ref x, .int t] (fun x => n ≤ x) ly τ (zwr σ o 95 M) (zPx n ly τ σ o M (cP_of M t (fun i => M (ztk i) 8))) := by
  refine zEv_of (ls := [some (.ref x), some (.int t), none, none, none, none, none, none, none]) htr (by decide) (Nat.le_of_ble_eq_true rfl) rfl (fun X hO hE hN hRm hL hNm => ?_)
  have hO : zOk G X RX6 cX6_roundsOf 2 := hO
  refine zr_aload_0 hO dX6_roundsOf_0 ?_
  refine zr_iload_1 hO dX6_roundsOf_1 ?_
  rcases hq2 : cF_rt M t with _ | r2
  · refine zr_VT1 (D := d) hO hRm hL (by omega) (by decide) (c := 6) (by decide) hX rfl rfl (e_X6_requireTask_x (d := d - 1) htr hX hM (by omega) hq2) zl_X6_88 zi_X6_requireTask zs_X6_requireTask zc_X6_requireTask zn_X6 zd_X6_requireTask (Nat.le_of_ble_eq_true rfl) dX6_roundsOf_2 (by omega) (by omega) ?_
    exact zX_out hO hE hN (fun z9 hz9 => zPx_x hz9 (by first | ((simp only [cP_of, hq2]) <;> rfl) | contradiction))
  · have hr2 : r2 < 16 := cF_rt_lt hq2
    refine zr_V1 (D := d) hO hRm hL (by omega) (by decide) (c := 6) (by decide) hX rfl rfl (e_X6_requireTask_ok (d := d - 1) htr hX hM (by omega) hq2) zl_X6_88 zi_X6_requireTask zs_X6_requireTask zc_X6_requireTask zn_X6 zd_X6_requireTask (Nat.le_of_ble_eq_true rfl) dX6_roundsOf_2 (by omega) (by omega) ?_
    refine zg_getfi (c := 4) hO (zC_t hM hr2) (by have := hr2; unfold ztk; omega) (by decide) (by decide) zf_X6_142 rfl dX6_roundsOf_5 ?_
    exact zr_ireturn hO hE dX6_roundsOf_8 (fun z9 hz9 => zPx_i hz9 (by first | ((simp only [cP_of, hq2]) <;> rfl) | contradiction))
set_option maxRecDepth 100000 in
set_option maxHeartbeats 400000 in
theorem e_X6_keyOf {l : Launch} {G : zGm} {d n x o q : Nat} {ly : zLy} {τ : zTu} {σ M : zSg} {t : Int32} (htr : l.stackTraces = false) (hX : ly x = (6 + 5, 2, zcr6 o q)) (hM : zC ly o) (hd : 7 ≤ d)  : zEv l G d 1 6 (yX6_keyOf, cX6_keyOf, 2, some .int) [.ref x, .int t] (fun x => n ≤ x) ly τ (zwr σ o 95 M) (zPx n ly τ σ o M (cP_of M t (fun i => cF_key M i (M 1 1)))) := by
  refine zEv_of (ls := [some (.ref x), some (.int t), none, none, none, none, none, none, none]) htr (by decide) (Nat.le_of_ble_eq_true rfl) rfl (fun X hO hE hN hRm hL hNm => ?_)
  have hO : zOk G X RX6 cX6_keyOf 2 := hO
  refine zr_aload_0 hO dX6_keyOf_0 ?_
  refine zr_iload_1 hO dX6_keyOf_1 ?_
  rcases hq2 : cF_rt M t with _ | r2
  · refine zr_VT1 (D := d) hO hRm hL (by omega) (by decide) (c := 6) (by decide) hX rfl rfl (e_X6_requireTask_x (d := d - 1) htr hX hM (by omega) hq2) zl_X6_88 zi_X6_requireTask zs_X6_requireTask zc_X6_requireTask zn_X6 zd_X6_requireTask (Nat.le_of_ble_eq_true rfl) dX6_keyOf_2 (by omega) (by omega) ?_
    exact zX_out hO hE hN (fun z9 hz9 => zPx_x hz9 (by first | ((simp only [cP_of, hq2]) <;> rfl) | contradiction))
  · have hr2 : r2 < 16 := cF_rt_lt hq2
    refine zr_V1 (D := d) hO hRm hL (by omega) (by decide) (c := 6) (by decide) hX rfl rfl (e_X6_requireTask_ok (d := d - 1) htr hX hM (by omega) hq2) zl_X6_88 zi_X6_requireTask zs_X6_requireTask zc_X6_requireTask zn_X6 zd_X6_requireTask (Nat.le_of_ble_eq_true rfl) dX6_keyOf_2 (by omega) (by omega) ?_
    refine zr_aload_0 hO dX6_keyOf_5 ?_
    refine zr_getfr (c := 6) hO (by decide) (by decide) zf_X6_10 hX rfl rfl dX6_keyOf_6 ?_
    refine zr_getfr (c := 0) hO (by decide) (by decide) zf_X6_23 (zC_0 hM) rfl rfl dX6_keyOf_9 ?_
    refine zg_getfi (c := 2) hO (zC_1 hM) (by decide) (by decide) (by decide) zf_X6_36 rfl dX6_keyOf_12 ?_
    refine zr_V1 (D := d) hO hRm hL (by omega) (by decide) (c := 4) (by decide) (zC_t hM hr2) rfl rfl (e_X4_key (d := d - 1) htr hM (by omega) hr2) zl_X6_145 zi_X4_key zs_X4_key zc_X4_key zn_X4 zd_X4_key (Nat.le_of_ble_eq_true rfl) dX6_keyOf_15 (by omega) (by omega) ?_
    exact zr_ireturn hO hE dX6_keyOf_18 (fun z9 hz9 => zPx_i hz9 (by first | ((simp only [cP_of, hq2]) <;> rfl) | contradiction))
set_option maxRecDepth 100000 in
set_option maxHeartbeats 400000 in
theorem e_X6_standOf {l : Launch} {G : zGm} {d n x o q : Nat} {ly : zLy} {τ : zTu} {σ M : zSg} {t : Int32} (htr : l.stackTraces = false) (hX : ly x = (6 + 5, 2, zcr6 o q)) (hM : zC ly o) (hd : 7 ≤ d)  : zEv l G d 1 6 (yX6_standOf, cX6_standOf, 2, some .int) [.ref x, .int t] (fun x => n ≤ x) ly τ (zwr σ o 95 M) (zPx n ly τ σ o M (cP_of M t (fun i => M (ztk i) 9))) := by
  refine zEv_of (ls := [some (.ref x), some (.int t), none, none, none, none, none, none, none]) htr (by decide) (Nat.le_of_ble_eq_true rfl) rfl (fun X hO hE hN hRm hL hNm => ?_)
  have hO : zOk G X RX6 cX6_standOf 2 := hO
  refine zr_aload_0 hO dX6_standOf_0 ?_
  refine zr_iload_1 hO dX6_standOf_1 ?_
  rcases hq2 : cF_rt M t with _ | r2
  · refine zr_VT1 (D := d) hO hRm hL (by omega) (by decide) (c := 6) (by decide) hX rfl rfl (e_X6_requireTask_x (d := d - 1) htr hX hM (by omega) hq2) zl_X6_88 zi_X6_requireTask zs_X6_requireTask zc_X6_requireTask zn_X6 zd_X6_requireTask (Nat.le_of_ble_eq_true rfl) dX6_standOf_2 (by omega) (by omega) ?_
    exact zX_out hO hE hN (fun z9 hz9 => zPx_x hz9 (by first | ((simp only [cP_of, hq2]) <;> rfl) | contradiction))
  · have hr2 : r2 < 16 := cF_rt_lt hq2
    refine zr_V1 (D := d) hO hRm hL (by omega) (by decide) (c := 6) (by decide) hX rfl rfl (e_X6_requireTask_ok (d := d - 1) htr hX hM (by omega) hq2) zl_X6_88 zi_X6_requireTask zs_X6_requireTask zc_X6_requireTask zn_X6 zd_X6_requireTask (Nat.le_of_ble_eq_true rfl) dX6_standOf_2 (by omega) (by omega) ?_
    refine zg_getfi (c := 4) hO (zC_t hM hr2) (by have := hr2; unfold ztk; omega) (by decide) (by decide) zf_X6_116 rfl dX6_standOf_5 ?_
    exact zr_ireturn hO hE dX6_standOf_8 (fun z9 hz9 => zPx_i hz9 (by first | ((simp only [cP_of, hq2]) <;> rfl) | contradiction))
set_option maxRecDepth 100000 in
set_option maxHeartbeats 400000 in
theorem e_X6_levelOf {l : Launch} {G : zGm} {d n x o q : Nat} {ly : zLy} {τ : zTu} {σ M : zSg} {t : Int32} (htr : l.stackTraces = false) (hX : ly x = (6 + 5, 2, zcr6 o q)) (hM : zC ly o) (hd : 7 ≤ d)  : zEv l G d 1 6 (yX6_levelOf, cX6_levelOf, 2, some .int) [.ref x, .int t] (fun x => n ≤ x) ly τ (zwr σ o 95 M) (zPx n ly τ σ o M (cP_of M t (fun i => M (ztk i) 10))) := by
  refine zEv_of (ls := [some (.ref x), some (.int t), none, none, none, none, none, none, none]) htr (by decide) (Nat.le_of_ble_eq_true rfl) rfl (fun X hO hE hN hRm hL hNm => ?_)
  have hO : zOk G X RX6 cX6_levelOf 2 := hO
  refine zr_aload_0 hO dX6_levelOf_0 ?_
  refine zr_iload_1 hO dX6_levelOf_1 ?_
  rcases hq2 : cF_rt M t with _ | r2
  · refine zr_VT1 (D := d) hO hRm hL (by omega) (by decide) (c := 6) (by decide) hX rfl rfl (e_X6_requireTask_x (d := d - 1) htr hX hM (by omega) hq2) zl_X6_88 zi_X6_requireTask zs_X6_requireTask zc_X6_requireTask zn_X6 zd_X6_requireTask (Nat.le_of_ble_eq_true rfl) dX6_levelOf_2 (by omega) (by omega) ?_
    exact zX_out hO hE hN (fun z9 hz9 => zPx_x hz9 (by first | ((simp only [cP_of, hq2]) <;> rfl) | contradiction))
  · have hr2 : r2 < 16 := cF_rt_lt hq2
    refine zr_V1 (D := d) hO hRm hL (by omega) (by decide) (c := 6) (by decide) hX rfl rfl (e_X6_requireTask_ok (d := d - 1) htr hX hM (by omega) hq2) zl_X6_88 zi_X6_requireTask zs_X6_requireTask zc_X6_requireTask zn_X6 zd_X6_requireTask (Nat.le_of_ble_eq_true rfl) dX6_levelOf_2 (by omega) (by omega) ?_
    refine zg_getfi (c := 4) hO (zC_t hM hr2) (by have := hr2; unfold ztk; omega) (by decide) (by decide) zf_X6_154 rfl dX6_levelOf_5 ?_
    exact zr_ireturn hO hE dX6_levelOf_8 (fun z9 hz9 => zPx_i hz9 (by first | ((simp only [cP_of, hq2]) <;> rfl) | contradiction))
set_option maxRecDepth 100000 in
set_option maxHeartbeats 400000 in
theorem e_X6_lentKey {l : Launch} {G : zGm} {d n x o q : Nat} {ly : zLy} {τ : zTu} {σ M : zSg} {t : Int32} (htr : l.stackTraces = false) (hX : ly x = (6 + 5, 2, zcr6 o q)) (hM : zC ly o) (hd : 7 ≤ d)  : zEv l G d 1 6 (yX6_lentKey, cX6_lentKey, 3, some .int) [.ref x, .int t] (fun x => n ≤ x) ly τ (zwr σ o 95 M) (zPx n ly τ σ o M (cP_lentKey M t)) := by
  refine zEv_of (ls := [some (.ref x), some (.int t), none, none, none, none, none, none, none]) htr (by decide) (Nat.le_of_ble_eq_true rfl) rfl (fun X hO hE hN hRm hL hNm => ?_)
  have hO : zOk G X RX6 cX6_lentKey 3 := hO
  refine zr_aload_0 hO dX6_lentKey_0 ?_
  refine zr_iload_1 hO dX6_lentKey_1 ?_
  rcases hq2 : cF_rt M t with _ | r2
  · refine zr_VT1 (D := d) hO hRm hL (by omega) (by decide) (c := 6) (by decide) hX rfl rfl (e_X6_requireTask_x (d := d - 1) htr hX hM (by omega) hq2) zl_X6_88 zi_X6_requireTask zs_X6_requireTask zc_X6_requireTask zn_X6 zd_X6_requireTask (Nat.le_of_ble_eq_true rfl) dX6_lentKey_2 (by omega) (by omega) ?_
    exact zX_out hO hE hN (fun z9 hz9 => zPx_x hz9 (by first | ((simp only [cP_lentKey, hq2]) <;> rfl) | contradiction))
  · have hr2 : r2 < 16 := cF_rt_lt hq2
    refine zr_V1 (D := d) hO hRm hL (by omega) (by decide) (c := 6) (by decide) hX rfl rfl (e_X6_requireTask_ok (d := d - 1) htr hX hM (by omega) hq2) zl_X6_88 zi_X6_requireTask zs_X6_requireTask zc_X6_requireTask zn_X6 zd_X6_requireTask (Nat.le_of_ble_eq_true rfl) dX6_lentKey_2 (by omega) (by omega) ?_
    refine zr_astore_2 hO dX6_lentKey_5 (by decide) rfl ?_
    refine zr_aload_0 hO dX6_lentKey_6 ?_
    refine zr_getfr (c := 6) hO (by decide) (by decide) zf_X6_10 hX rfl rfl dX6_lentKey_7 ?_
    refine zr_V0 (D := d) hO hRm hL (by omega) (by decide) (c := 0) (by decide) (zC_0 hM) rfl rfl (e_X0_findLentKeys (d := d - 1) htr hM (by omega)) zl_X6_148 zi_X0_findLentKeys zs_X0_findLentKeys zc_X0_findLentKeys zn_X0 zd_X0_findLentKeys (Nat.le_of_ble_eq_true rfl) dX6_lentKey_10 (by omega) (by omega) ?_
    refine zr_aload_2 hO dX6_lentKey_13 ?_
    refine zg_getfi (c := 4) hO (zC_t hM hr2) (by have := hr2; unfold ztk; omega) (by decide) (by decide) zf_X6_151 rfl dX6_lentKey_14 ?_
    exact zr_ireturn hO hE dX6_lentKey_17 (fun z9 hz9 => zPx_i hz9 (by first | ((simp only [cP_lentKey, hq2]) <;> rfl) | contradiction))
set_option maxRecDepth 100000 in
set_option maxHeartbeats 400000 in
theorem e_X6_told {l : Launch} {G : zGm} {d n x o q : Nat} {ly : zLy} {τ : zTu} {σ M : zSg} {t w : Int32} (htr : l.stackTraces = false) (hX : ly x = (6 + 5, 2, zcr6 o q)) (hM : zC ly o) (hd : 7 ≤ d)  : zEv l G d 1 6 (yX6_told, cX6_told, 4, some .int) [.ref x, .int t, .int w] (fun x => n ≤ x) ly τ (zwr σ o 95 M) (zPx n ly τ σ o M (cP_told M t w)) := by
  refine zEv_of (ls := [some (.ref x), some (.int t), some (.int w), none, none, none, none, none, none]) htr (by decide) (Nat.le_of_ble_eq_true rfl) rfl (fun X hO hE hN hRm hL hNm => ?_)
  have hO : zOk G X RX6 cX6_told 4 := hO
  refine zr_aload_0 hO dX6_told_0 ?_
  refine zr_iload_1 hO dX6_told_1 ?_
  rcases hq2 : cF_rt M t with _ | r2
  · refine zr_VT1 (D := d) hO hRm hL (by omega) (by decide) (c := 6) (by decide) hX rfl rfl (e_X6_requireTask_x (d := d - 1) htr hX hM (by omega) hq2) zl_X6_88 zi_X6_requireTask zs_X6_requireTask zc_X6_requireTask zn_X6 zd_X6_requireTask (Nat.le_of_ble_eq_true rfl) dX6_told_2 (by omega) (by omega) ?_
    exact zX_out hO hE hN (fun z9 hz9 => zPx_x hz9 (by first | ((simp only [cP_told, hq2]) <;> rfl) | contradiction))
  · have hr2 : r2 < 16 := cF_rt_lt hq2
    refine zr_V1 (D := d) hO hRm hL (by omega) (by decide) (c := 6) (by decide) hX rfl rfl (e_X6_requireTask_ok (d := d - 1) htr hX hM (by omega) hq2) zl_X6_88 zi_X6_requireTask zs_X6_requireTask zc_X6_requireTask zn_X6 zd_X6_requireTask (Nat.le_of_ble_eq_true rfl) dX6_told_2 (by omega) (by omega) ?_
    refine zr_astore_3 hO dX6_told_5 (by decide) rfl ?_
    refine zr_iload_2 hO dX6_told_6 ?_
    refine zr_if_lt (tgt := 19) hO dX6_told_7 (by decide) (fun c7 => ?_) (fun c7 => ?_)
    · refine zr_iconst (v := 0) hO dX6_told_19 (by decide) ?_
      refine zr_ST1 (D := d) hO hRm hL (by omega) (by decide) rfl (e_X6_requireArgument0 (d := d - 1) htr (by omega)) zl_X6_19 zt_X6_requireArgument zc_X6_requireArgument zn_X6 zd_X6_requireArgument (Nat.le_of_ble_eq_true rfl) dX6_told_20 (by omega) (by omega) ?_
      exact zX_out hO hE hN (fun z9 hz9 => zPx_x hz9 (by first | ((simp only [cP_told, hq2, if_pos c7]) <;> rfl) | contradiction))
    · refine zr_iload_2 hO dX6_told_10 ?_
      refine zr_iconst (v := 5) hO dX6_told_11 (by decide) ?_
      refine zr_icmp_ge (tgt := 19) hO dX6_told_12 (by decide) (fun c12 => ?_) (fun c12 => ?_)
      · refine zr_iconst (v := 0) hO dX6_told_19 (by decide) ?_
        refine zr_ST1 (D := d) hO hRm hL (by omega) (by decide) rfl (e_X6_requireArgument0 (d := d - 1) htr (by omega)) zl_X6_19 zt_X6_requireArgument zc_X6_requireArgument zn_X6 zd_X6_requireArgument (Nat.le_of_ble_eq_true rfl) dX6_told_20 (by omega) (by omega) ?_
        exact zX_out hO hE hN (fun z9 hz9 => zPx_x hz9 (by first | ((simp only [cP_told, hq2, if_neg c7, if_neg c12]) <;> rfl) | contradiction))
      · refine zr_iconst (v := 1) hO dX6_told_15 (by decide) ?_
        refine zr_goto (tgt := 20) hO dX6_told_16 (by decide) ?_
        refine zr_S1 (D := d) hO hRm hL (by omega) (by decide) rfl (e_X6_requireArgument1 (d := d - 1) htr (by omega)) zl_X6_19 zt_X6_requireArgument zc_X6_requireArgument zn_X6 zd_X6_requireArgument (Nat.le_of_ble_eq_true rfl) dX6_told_20 (by omega) (by omega) ?_
        refine zr_aload_3 hO dX6_told_23 ?_
        refine zr_getfr (c := 4) hO (by decide) (by decide) zf_X6_157 (zC_t hM hr2) rfl rfl dX6_told_24 ?_
        refine zr_iload_2 hO dX6_told_27 ?_
        refine zr_V1 (D := d) hO hRm hL (by omega) (by decide) (c := 3) (by decide) (zC_y hM hr2) rfl rfl (e_X3_tell (d := d - 1) htr hM (by omega) hr2) zl_X6_161 zi_X3_tell zs_X3_tell zc_X3_tell zn_X3 zd_X3_tell (Nat.le_of_ble_eq_true rfl) dX6_told_28 (by omega) (by omega) ?_
        exact zr_ireturn hO hE dX6_told_31 (fun z9 hz9 => zPx_i hz9 (by first | ((simp only [cP_told, hq2, if_neg c7, if_pos c12]) <;> rfl) | contradiction))
set_option maxRecDepth 100000 in
set_option maxHeartbeats 400000 in
theorem e_X6_on {l : Launch} {G : zGm} {d n x o q : Nat} {ly : zLy} {τ : zTu} {σ M : zSg} {t : Int32} (htr : l.stackTraces = false) (hX : ly x = (6 + 5, 2, zcr6 o q)) (hM : zC ly o) (hd : 7 ≤ d)  : zEv l G d 1 6 (yX6_on, cX6_on, 2, some .int) [.ref x, .int t] (fun x => n ≤ x) ly τ (zwr σ o 95 M) (zPx n ly τ σ o M (cP_on M t)) := by
  refine zEv_of (ls := [some (.ref x), some (.int t), none, none, none, none, none, none, none]) htr (by decide) (Nat.le_of_ble_eq_true rfl) rfl (fun X hO hE hN hRm hL hNm => ?_)
  have hO : zOk G X RX6 cX6_on 2 := hO
  refine zr_aload_0 hO dX6_on_0 ?_
  refine zr_iload_1 hO dX6_on_1 ?_
  rcases hq2 : cR_proc M t with _ | E2
  · refine zr_V1 (D := d) hO hRm hL (by omega) (by decide) (c := 6) (by decide) hX rfl rfl (e_X6_requireProcessor_ok (d := d - 1) htr hX hM (by omega) hq2) zl_X6_166 zi_X6_requireProcessor zs_X6_requireProcessor zc_X6_requireProcessor zn_X6 zd_X6_requireProcessor (Nat.le_of_ble_eq_true rfl) dX6_on_2 (by omega) (by omega) ?_
    refine zr_aload_0 hO dX6_on_5 ?_
    refine zr_getfr (c := 6) hO (by decide) (by decide) zf_X6_10 hX rfl rfl dX6_on_6 ?_
    refine zr_iload_1 hO dX6_on_9 ?_
    refine zr_V1 (D := d) hO hRm hL (by omega) (by decide) (c := 0) (by decide) (zC_0 hM) rfl rfl (e_X0_onProcessor (d := d - 1) htr hM (by omega)) zl_X6_169 zi_X0_onProcessor zs_X0_onProcessor zc_X0_onProcessor zn_X0 zd_X0_onProcessor (Nat.le_of_ble_eq_true rfl) dX6_on_10 (by omega) (by omega) ?_
    exact zr_ireturn hO hE dX6_on_13 (fun z9 hz9 => zPx_i hz9 (by first | ((simp only [cP_on, hq2]) <;> rfl) | contradiction))
  · refine zr_VT1 (D := d) hO hRm hL (by omega) (by decide) (c := 6) (by decide) hX rfl rfl (e_X6_requireProcessor_x (d := d - 1) htr hX hM (by omega) hq2) zl_X6_166 zi_X6_requireProcessor zs_X6_requireProcessor zc_X6_requireProcessor zn_X6 zd_X6_requireProcessor (Nat.le_of_ble_eq_true rfl) dX6_on_2 (by omega) (by omega) ?_
    exact zX_out hO hE hN (fun z9 hz9 => zPx_x hz9 (by first | ((simp only [cP_on, hq2]) <;> rfl) | contradiction))
set_option maxRecDepth 100000 in
set_option maxHeartbeats 400000 in
theorem e_X6_ran {l : Launch} {G : zGm} {d n x o q : Nat} {ly : zLy} {τ : zTu} {σ M : zSg} {t b : Int32} (htr : l.stackTraces = false) (hX : ly x = (6 + 5, 2, zcr6 o q)) (hM : zC ly o) (hd : 7 ≤ d)  : zEv l G d 1 6 (yX6_ran, cX6_ran, 3, some .int) [.ref x, .int t, .int b] (fun x => n ≤ x) ly τ (zwr σ o 95 M) (zPx n ly τ σ o M (cP_ran M t b)) := by
  refine zEv_of (ls := [some (.ref x), some (.int t), some (.int b), none, none, none, none, none, none]) htr (by decide) (Nat.le_of_ble_eq_true rfl) rfl (fun X hO hE hN hRm hL hNm => ?_)
  have hO : zOk G X RX6 cX6_ran 3 := hO
  refine zr_aload_0 hO dX6_ran_0 ?_
  refine zr_iload_1 hO dX6_ran_1 ?_
  rcases hq2 : cR_proc M t with _ | E2
  · refine zr_V1 (D := d) hO hRm hL (by omega) (by decide) (c := 6) (by decide) hX rfl rfl (e_X6_requireProcessor_ok (d := d - 1) htr hX hM (by omega) hq2) zl_X6_166 zi_X6_requireProcessor zs_X6_requireProcessor zc_X6_requireProcessor zn_X6 zd_X6_requireProcessor (Nat.le_of_ble_eq_true rfl) dX6_ran_2 (by omega) (by omega) ?_
    refine zr_iload_2 hO dX6_ran_5 ?_
    refine zr_iconst (v := 1) hO dX6_ran_6 (by decide) ?_
    refine zr_icmp_lt (tgt := 20) hO dX6_ran_7 (by decide) (fun c7 => ?_) (fun c7 => ?_)
    · refine zr_iconst (v := 0) hO dX6_ran_20 (by decide) ?_
      refine zr_ST1 (D := d) hO hRm hL (by omega) (by decide) rfl (e_X6_requireArgument0 (d := d - 1) htr (by omega)) zl_X6_19 zt_X6_requireArgument zc_X6_requireArgument zn_X6 zd_X6_requireArgument (Nat.le_of_ble_eq_true rfl) dX6_ran_21 (by omega) (by omega) ?_
      exact zX_out hO hE hN (fun z9 hz9 => zPx_x hz9 (by first | ((simp only [cP_ran, hq2, if_pos c7]) <;> rfl) | contradiction))
    · refine zr_iload_2 hO dX6_ran_10 ?_
      refine zr_bipush (v := 30) hO dX6_ran_11 (by decide) ?_
      refine zr_icmp_gt (tgt := 20) hO dX6_ran_13 (by decide) (fun c13 => ?_) (fun c13 => ?_)
      · refine zr_iconst (v := 0) hO dX6_ran_20 (by decide) ?_
        refine zr_ST1 (D := d) hO hRm hL (by omega) (by decide) rfl (e_X6_requireArgument0 (d := d - 1) htr (by omega)) zl_X6_19 zt_X6_requireArgument zc_X6_requireArgument zn_X6 zd_X6_requireArgument (Nat.le_of_ble_eq_true rfl) dX6_ran_21 (by omega) (by omega) ?_
        exact zX_out hO hE hN (fun z9 hz9 => zPx_x hz9 (by first | ((simp only [cP_ran, hq2, if_neg c7, if_pos c13]) <;> rfl) | contradiction))
      · refine zr_iconst (v := 1) hO dX6_ran_16 (by decide) ?_
        refine zr_goto (tgt := 21) hO dX6_ran_17 (by decide) ?_
        refine zr_S1 (D := d) hO hRm hL (by omega) (by decide) rfl (e_X6_requireArgument1 (d := d - 1) htr (by omega)) zl_X6_19 zt_X6_requireArgument zc_X6_requireArgument zn_X6 zd_X6_requireArgument (Nat.le_of_ble_eq_true rfl) dX6_ran_21 (by omega) (by omega) ?_
        refine zr_aload_0 hO dX6_ran_24 ?_
        refine zr_getfr (c := 6) hO (by decide) (by decide) zf_X6_10 hX rfl rfl dX6_ran_25 ?_
        refine zr_getfr (c := 0) hO (by decide) (by decide) zf_X6_172 (zC_0 hM) rfl rfl dX6_ran_28 ?_
        refine zr_iload_1 hO dX6_ran_31 ?_
        refine zr_aload_0 hO dX6_ran_32 ?_
        refine zr_getfr (c := 6) hO (by decide) (by decide) zf_X6_10 hX rfl rfl dX6_ran_33 ?_
        refine zg_getfi0 (c := 0) hO (zC_0 hM) (by decide) (by decide) (by decide) zf_X6_136 rfl dX6_ran_36 ?_
        refine zV_pc (pc' := 39) rfl ?_
        refine zr_iload_2 hO dX6_ran_39 ?_
        refine zr_isub hO dX6_ran_40 ?_
        refine zr_V2 (D := d) hO hRm hL (by omega) (by decide) (c := 5) (by decide) (zC_3 hM) rfl rfl (e_X5_ranIn (d := d - 1) htr hM (by omega)) zl_X6_176 zi_X5_ranIn zs_X5_ranIn zc_X5_ranIn zn_X5 zd_X5_ranIn (Nat.le_of_ble_eq_true rfl) dX6_ran_41 (by omega) (by omega) ?_
        exact zr_ireturn hO hE dX6_ran_44 (fun z9 hz9 => zPx_i hz9 (by first | ((simp only [cP_ran, hq2, if_neg c7, if_neg c13]) <;> rfl) | contradiction))
  · refine zr_VT1 (D := d) hO hRm hL (by omega) (by decide) (c := 6) (by decide) hX rfl rfl (e_X6_requireProcessor_x (d := d - 1) htr hX hM (by omega) hq2) zl_X6_166 zi_X6_requireProcessor zs_X6_requireProcessor zc_X6_requireProcessor zn_X6 zd_X6_requireProcessor (Nat.le_of_ble_eq_true rfl) dX6_ran_2 (by omega) (by omega) ?_
    exact zX_out hO hE hN (fun z9 hz9 => zPx_x hz9 (by first | ((simp only [cP_ran, hq2]) <;> rfl) | contradiction))
set_option maxRecDepth 100000 in
set_option maxHeartbeats 400000 in
theorem e_X6_used {l : Launch} {G : zGm} {d n x o q : Nat} {ly : zLy} {τ : zTu} {σ M : zSg} {g : Int32} (htr : l.stackTraces = false) (hX : ly x = (6 + 5, 2, zcr6 o q)) (hM : zC ly o) (hd : 7 ≤ d)  : zEv l G d 1 6 (yX6_used, cX6_used, 3, some .int) [.ref x, .int g] (fun x => n ≤ x) ly τ (zwr σ o 95 M) (zPx n ly τ σ o M (cP_used M g)) := by
  refine zEv_of (ls := [some (.ref x), some (.int g), none, none, none, none, none, none, none]) htr (by decide) (Nat.le_of_ble_eq_true rfl) rfl (fun X hO hE hN hRm hL hNm => ?_)
  have hO : zOk G X RX6 cX6_used 3 := hO
  refine zr_aload_0 hO dX6_used_0 ?_
  refine zr_getfr (c := 6) hO (by decide) (by decide) zf_X6_10 hX rfl rfl dX6_used_1 ?_
  refine zr_getfr (c := 0) hO (by decide) (by decide) zf_X6_188 (zC_0 hM) rfl rfl dX6_used_4 ?_
  refine zr_astore_2 hO dX6_used_7 (by decide) rfl ?_
  refine zr_iload_1 hO dX6_used_8 ?_
  refine zr_if_lt (tgt := 18) hO dX6_used_9 (by decide) (fun c9 => ?_) (fun c9 => ?_)
  · exact zr_throw (D := d) hO hE hN (by omega) hRm zXw_ix (by decide +kernel) (by decide : 51 ∈ zStrs) (Nat.le_of_ble_eq_true rfl) (by omega) (by omega) dX6_used_18 dX6_used_21 dX6_used_22 dX6_used_24 dX6_used_27 (fun z8 z9 hz8 hz9 => zPx_x (Nat.le_trans hz8 hz9) (by first | ((simp only [cP_used, if_pos c9]) <;> rfl) | contradiction))
  · refine zr_iload_1 hO dX6_used_12 ?_
    refine zr_aload_2 hO dX6_used_13 ?_
    refine zr_alen (v := 4) hO (zC_9 hM) rfl dX6_used_14 ?_
    refine zr_icmp_lt (tgt := 28) hO dX6_used_15 (by decide) (fun c15 => ?_) (fun c15 => ?_)
    · refine zr_aload_2 hO dX6_used_28 ?_
      refine zr_iload_1 hO dX6_used_29 ?_
      refine zg_iald hO (zC_9 hM) (by decide) (by first | assumption | exact zin_c (by assumption) (by assumption) rfl) dX6_used_30 ?_
      exact zr_ireturn hO hE dX6_used_31 (fun z9 hz9 => zPx_i hz9 (by first | ((simp only [cP_used, if_neg c9, if_pos c15]) <;> rfl) | contradiction))
    · exact zr_throw (D := d) hO hE hN (by omega) hRm zXw_ix (by decide +kernel) (by decide : 51 ∈ zStrs) (Nat.le_of_ble_eq_true rfl) (by omega) (by omega) dX6_used_18 dX6_used_21 dX6_used_22 dX6_used_24 dX6_used_27 (fun z8 z9 hz8 hz9 => zPx_x (Nat.le_trans hz8 hz9) (by first | ((simp only [cP_used, if_neg c9, if_neg c15]) <;> rfl) | contradiction))
set_option maxRecDepth 100000 in
set_option maxHeartbeats 400000 in
theorem e_X6_holder {l : Launch} {G : zGm} {d n x o q : Nat} {ly : zLy} {τ : zTu} {σ M : zSg} {t : Int32} (htr : l.stackTraces = false) (hX : ly x = (6 + 5, 2, zcr6 o q)) (hM : zC ly o) (hd : 7 ≤ d)  : zEv l G d 1 6 (yX6_holder, cX6_holder, 2, some .int) [.ref x, .int t] (fun x => n ≤ x) ly τ (zwr σ o 95 M) (zPx n ly τ σ o M (cP_lk M t (cF_holder M t))) := by
  refine zEv_of (ls := [some (.ref x), some (.int t), none, none, none, none, none, none, none]) htr (by decide) (Nat.le_of_ble_eq_true rfl) rfl (fun X hO hE hN hRm hL hNm => ?_)
  have hO : zOk G X RX6 cX6_holder 2 := hO
  refine zr_iload_1 hO dX6_holder_0 ?_
  rcases hq1 : cR_lock t with _ | E1
  · refine zr_S1 (D := d) hO hRm hL (by omega) (by decide) rfl (e_X6_requireLock_ok (d := d - 1) htr (by omega) hq1) zl_X6_191 zt_X6_requireLock zc_X6_requireLock zn_X6 zd_X6_requireLock (Nat.le_of_ble_eq_true rfl) dX6_holder_1 (by omega) (by omega) ?_
    refine zr_aload_0 hO dX6_holder_4 ?_
    refine zr_getfr (c := 6) hO (by decide) (by decide) zf_X6_10 hX rfl rfl dX6_holder_5 ?_
    refine zr_iload_1 hO dX6_holder_8 ?_
    refine zr_V1 (D := d) hO hRm hL (by omega) (by decide) (c := 0) (by decide) (zC_0 hM) rfl rfl (e_X0_holderOf (d := d - 1) htr hM (by omega)) zl_X6_194 zi_X0_holderOf zs_X0_holderOf zc_X0_holderOf zn_X0 zd_X0_holderOf (Nat.le_of_ble_eq_true rfl) dX6_holder_9 (by omega) (by omega) ?_
    exact zr_ireturn hO hE dX6_holder_12 (fun z9 hz9 => zPx_i hz9 (by first | ((simp only [cP_lk, hq1]) <;> rfl) | contradiction))
  · refine zr_ST1 (D := d) hO hRm hL (by omega) (by decide) rfl (e_X6_requireLock_x (d := d - 1) htr (by omega) hq1) zl_X6_191 zt_X6_requireLock zc_X6_requireLock zn_X6 zd_X6_requireLock (Nat.le_of_ble_eq_true rfl) dX6_holder_1 (by omega) (by omega) ?_
    exact zX_out hO hE hN (fun z9 hz9 => zPx_x hz9 (by first | ((simp only [cP_lk, hq1]) <;> rfl) | contradiction))
set_option maxRecDepth 100000 in
set_option maxHeartbeats 400000 in
theorem e_X6_blocked {l : Launch} {G : zGm} {d n x o q : Nat} {ly : zLy} {τ : zTu} {σ M : zSg} {t : Int32} (htr : l.stackTraces = false) (hX : ly x = (6 + 5, 2, zcr6 o q)) (hM : zC ly o) (hd : 7 ≤ d)  : zEv l G d 1 6 (yX6_blocked, cX6_blocked, 2, some .int) [.ref x, .int t] (fun x => n ≤ x) ly τ (zwr σ o 95 M) (zPx n ly τ σ o M (cP_lk M t (cF_wt M 4 t))) := by
  refine zEv_of (ls := [some (.ref x), some (.int t), none, none, none, none, none, none, none]) htr (by decide) (Nat.le_of_ble_eq_true rfl) rfl (fun X hO hE hN hRm hL hNm => ?_)
  have hO : zOk G X RX6 cX6_blocked 2 := hO
  refine zr_iload_1 hO dX6_blocked_0 ?_
  rcases hq1 : cR_lock t with _ | E1
  · refine zr_S1 (D := d) hO hRm hL (by omega) (by decide) rfl (e_X6_requireLock_ok (d := d - 1) htr (by omega) hq1) zl_X6_191 zt_X6_requireLock zc_X6_requireLock zn_X6 zd_X6_requireLock (Nat.le_of_ble_eq_true rfl) dX6_blocked_1 (by omega) (by omega) ?_
    refine zr_aload_0 hO dX6_blocked_4 ?_
    refine zr_getfr (c := 6) hO (by decide) (by decide) zf_X6_10 hX rfl rfl dX6_blocked_5 ?_
    refine zr_iconst (v := 4) hO dX6_blocked_8 (by decide) ?_
    refine zr_iload_1 hO dX6_blocked_9 ?_
    refine zr_V2 (D := d) hO hRm hL (by omega) (by decide) (c := 0) (by decide) (zC_0 hM) rfl rfl (e_X0_waitersAt (d := d - 1) htr hM (by omega)) zl_X6_197 zi_X0_waitersAt zs_X0_waitersAt zc_X0_waitersAt zn_X0 zd_X0_waitersAt (Nat.le_of_ble_eq_true rfl) dX6_blocked_10 (by omega) (by omega) ?_
    exact zr_ireturn hO hE dX6_blocked_13 (fun z9 hz9 => zPx_i hz9 (by first | ((simp only [cP_lk, hq1]) <;> rfl) | contradiction))
  · refine zr_ST1 (D := d) hO hRm hL (by omega) (by decide) rfl (e_X6_requireLock_x (d := d - 1) htr (by omega) hq1) zl_X6_191 zt_X6_requireLock zc_X6_requireLock zn_X6 zd_X6_requireLock (Nat.le_of_ble_eq_true rfl) dX6_blocked_1 (by omega) (by omega) ?_
    exact zX_out hO hE hN (fun z9 hz9 => zPx_x hz9 (by first | ((simp only [cP_lk, hq1]) <;> rfl) | contradiction))
set_option maxRecDepth 100000 in
set_option maxHeartbeats 400000 in
theorem e_X6_number {l : Launch} {G : zGm} {d n x o q : Nat} {ly : zLy} {τ : zTu} {σ M : zSg} {t : Int32} (htr : l.stackTraces = false) (hX : ly x = (6 + 5, 2, zcr6 o q)) (hM : zC ly o) (hd : 7 ≤ d)  : zEv l G d 1 6 (yX6_number, cX6_number, 2, some .int) [.ref x, .int t] (fun x => n ≤ x) ly τ (zwr σ o 95 M) (zPx n ly τ σ o M (cP_lk M t (cF_number M t))) := by
  refine zEv_of (ls := [some (.ref x), some (.int t), none, none, none, none, none, none, none]) htr (by decide) (Nat.le_of_ble_eq_true rfl) rfl (fun X hO hE hN hRm hL hNm => ?_)
  have hO : zOk G X RX6 cX6_number 2 := hO
  refine zr_iload_1 hO dX6_number_0 ?_
  rcases hq1 : cR_lock t with _ | E1
  · refine zr_S1 (D := d) hO hRm hL (by omega) (by decide) rfl (e_X6_requireEvent_ok (d := d - 1) htr (by omega) hq1) zl_X6_122 zt_X6_requireEvent zc_X6_requireEvent zn_X6 zd_X6_requireEvent (Nat.le_of_ble_eq_true rfl) dX6_number_1 (by omega) (by omega) ?_
    refine zr_aload_0 hO dX6_number_4 ?_
    refine zr_getfr (c := 6) hO (by decide) (by decide) zf_X6_10 hX rfl rfl dX6_number_5 ?_
    refine zr_iload_1 hO dX6_number_8 ?_
    refine zr_V1 (D := d) hO hRm hL (by omega) (by decide) (c := 0) (by decide) (zC_0 hM) rfl rfl (e_X0_numberOf (d := d - 1) htr hM (by omega)) zl_X6_129 zi_X0_numberOf zs_X0_numberOf zc_X0_numberOf zn_X0 zd_X0_numberOf (Nat.le_of_ble_eq_true rfl) dX6_number_9 (by omega) (by omega) ?_
    exact zr_ireturn hO hE dX6_number_12 (fun z9 hz9 => zPx_i hz9 (by first | ((simp only [cP_lk, hq1]) <;> rfl) | contradiction))
  · refine zr_ST1 (D := d) hO hRm hL (by omega) (by decide) rfl (e_X6_requireEvent_x (d := d - 1) htr (by omega) hq1) zl_X6_122 zt_X6_requireEvent zc_X6_requireEvent zn_X6 zd_X6_requireEvent (Nat.le_of_ble_eq_true rfl) dX6_number_1 (by omega) (by omega) ?_
    exact zX_out hO hE hN (fun z9 hz9 => zPx_x hz9 (by first | ((simp only [cP_lk, hq1]) <;> rfl) | contradiction))
set_option maxRecDepth 100000 in
set_option maxHeartbeats 400000 in
theorem e_X6_awaiting {l : Launch} {G : zGm} {d n x o q : Nat} {ly : zLy} {τ : zTu} {σ M : zSg} {t : Int32} (htr : l.stackTraces = false) (hX : ly x = (6 + 5, 2, zcr6 o q)) (hM : zC ly o) (hd : 7 ≤ d)  : zEv l G d 1 6 (yX6_awaiting, cX6_awaiting, 2, some .int) [.ref x, .int t] (fun x => n ≤ x) ly τ (zwr σ o 95 M) (zPx n ly τ σ o M (cP_lk M t (cF_wt M 5 t))) := by
  refine zEv_of (ls := [some (.ref x), some (.int t), none, none, none, none, none, none, none]) htr (by decide) (Nat.le_of_ble_eq_true rfl) rfl (fun X hO hE hN hRm hL hNm => ?_)
  have hO : zOk G X RX6 cX6_awaiting 2 := hO
  refine zr_iload_1 hO dX6_awaiting_0 ?_
  rcases hq1 : cR_lock t with _ | E1
  · refine zr_S1 (D := d) hO hRm hL (by omega) (by decide) rfl (e_X6_requireEvent_ok (d := d - 1) htr (by omega) hq1) zl_X6_122 zt_X6_requireEvent zc_X6_requireEvent zn_X6 zd_X6_requireEvent (Nat.le_of_ble_eq_true rfl) dX6_awaiting_1 (by omega) (by omega) ?_
    refine zr_aload_0 hO dX6_awaiting_4 ?_
    refine zr_getfr (c := 6) hO (by decide) (by decide) zf_X6_10 hX rfl rfl dX6_awaiting_5 ?_
    refine zr_iconst (v := 5) hO dX6_awaiting_8 (by decide) ?_
    refine zr_iload_1 hO dX6_awaiting_9 ?_
    refine zr_V2 (D := d) hO hRm hL (by omega) (by decide) (c := 0) (by decide) (zC_0 hM) rfl rfl (e_X0_waitersAt (d := d - 1) htr hM (by omega)) zl_X6_197 zi_X0_waitersAt zs_X0_waitersAt zc_X0_waitersAt zn_X0 zd_X0_waitersAt (Nat.le_of_ble_eq_true rfl) dX6_awaiting_10 (by omega) (by omega) ?_
    exact zr_ireturn hO hE dX6_awaiting_13 (fun z9 hz9 => zPx_i hz9 (by first | ((simp only [cP_lk, hq1]) <;> rfl) | contradiction))
  · refine zr_ST1 (D := d) hO hRm hL (by omega) (by decide) rfl (e_X6_requireEvent_x (d := d - 1) htr (by omega) hq1) zl_X6_122 zt_X6_requireEvent zc_X6_requireEvent zn_X6 zd_X6_requireEvent (Nat.le_of_ble_eq_true rfl) dX6_awaiting_1 (by omega) (by omega) ?_
    exact zX_out hO hE hN (fun z9 hz9 => zPx_x hz9 (by first | ((simp only [cP_lk, hq1]) <;> rfl) | contradiction))
set_option maxRecDepth 100000 in
set_option maxHeartbeats 400000 in
theorem e_X6_tick {l : Launch} {G : zGm} {d n x o q : Nat} {ly : zLy} {τ : zTu} {σ M : zSg} {t : Int32} (htr : l.stackTraces = false) (hX : ly x = (6 + 5, 2, zcr6 o q)) (hM : zC ly o) (hd : 7 ≤ d)  : zEv l G d 1 6 (yX6_tick, cX6_tick, 3, some .int) [.ref x, .int t] (fun x => n ≤ x) ly τ (zwr σ o 95 M) (zPx n ly τ σ o M (cP_tick M t)) := by
  refine zEv_of (ls := [some (.ref x), some (.int t), none, none, none, none, none, none, none]) htr (by decide) (Nat.le_of_ble_eq_true rfl) rfl (fun X hO hE hN hRm hL hNm => ?_)
  have hO : zOk G X RX6 cX6_tick 3 := hO
  refine zr_iload_1 hO dX6_tick_0 ?_
  refine zr_iconst (v := 1) hO dX6_tick_1 (by decide) ?_
  refine zr_icmp_lt (tgt := 15) hO dX6_tick_2 (by decide) (fun c2 => ?_) (fun c2 => ?_)
  · refine zr_iconst (v := 0) hO dX6_tick_15 (by decide) ?_
    refine zr_ST1 (D := d) hO hRm hL (by omega) (by decide) rfl (e_X6_requireArgument0 (d := d - 1) htr (by omega)) zl_X6_19 zt_X6_requireArgument zc_X6_requireArgument zn_X6 zd_X6_requireArgument (Nat.le_of_ble_eq_true rfl) dX6_tick_16 (by omega) (by omega) ?_
    exact zX_out hO hE hN (fun z9 hz9 => zPx_x hz9 (by first | ((simp only [cP_tick, cF_ticks, if_pos c2]) <;> rfl) | contradiction))
  · refine zr_iload_1 hO dX6_tick_5 ?_
    refine zr_bipush (v := 40) hO dX6_tick_6 (by decide) ?_
    refine zr_icmp_gt (tgt := 15) hO dX6_tick_8 (by decide) (fun c8 => ?_) (fun c8 => ?_)
    · refine zr_iconst (v := 0) hO dX6_tick_15 (by decide) ?_
      refine zr_ST1 (D := d) hO hRm hL (by omega) (by decide) rfl (e_X6_requireArgument0 (d := d - 1) htr (by omega)) zl_X6_19 zt_X6_requireArgument zc_X6_requireArgument zn_X6 zd_X6_requireArgument (Nat.le_of_ble_eq_true rfl) dX6_tick_16 (by omega) (by omega) ?_
      exact zX_out hO hE hN (fun z9 hz9 => zPx_x hz9 (by first | ((simp only [cP_tick, cF_ticks, if_neg c2, if_pos c8]) <;> rfl) | contradiction))
    · refine zr_iconst (v := 1) hO dX6_tick_11 (by decide) ?_
      refine zr_goto (tgt := 16) hO dX6_tick_12 (by decide) ?_
      refine zr_S1 (D := d) hO hRm hL (by omega) (by decide) rfl (e_X6_requireArgument1 (d := d - 1) htr (by omega)) zl_X6_19 zt_X6_requireArgument zc_X6_requireArgument zn_X6 zd_X6_requireArgument (Nat.le_of_ble_eq_true rfl) dX6_tick_16 (by omega) (by omega) ?_
      have h0 : 0 ≤ t.toInt := by rw [Int32.lt_iff_toInt_lt, show (1 : Int32).toInt = 1 from rfl] at c2; omega
      refine zr_iconst (v := 0) hO dX6_tick_19 (by decide) ?_
      refine zr_istore_2 hO dX6_tick_20 (by decide) rfl ?_
      refine z_for (P := fun k s => zV G X 3 1 6 (fun x => n ≤ x) ly τ (zwr σ o 95 s) 21 [some (.ref x), some (.int t), some (.int (nI k)), none, none, none, none, none, none] []) (ix t) (fun _ s => cF_tick s) (fun _ _ => True) M trivial (fun _ _ _ _ => trivial) ?_ ?_
      · intro k s hk hIk ih
        refine zr_iload_2 hO dX6_tick_21 ?_
        refine zr_iload_1 hO dX6_tick_22 ?_
        refine zr_icmp_ge (tgt := 39) hO dX6_tick_23 (by decide) (fun c23 => ?_) (fun c23 => ?_)
        · exact absurd (zlt_T h0 hk) c23
        · refine zr_aload_0 hO dX6_tick_26 ?_
          refine zr_getfr (c := 6) hO (by decide) (by decide) zf_X6_10 hX rfl rfl dX6_tick_27 ?_
          refine zr_V0 (D := d) hO hRm hL (by omega) (by decide) (c := 0) (by decide) (zC_0 hM) rfl rfl (e_X0_passTick (d := d - 1) htr hM (by omega)) zl_X6_133 zi_X0_passTick zs_X0_passTick zc_X0_passTick zn_X0 zd_X0_passTick (Nat.le_of_ble_eq_true rfl) dX6_tick_30 (by omega) (by omega) ?_
          refine zr_iinc_2 (v := 1) hO dX6_tick_33 (by decide) (by decide) rfl ?_
          refine zr_goto (tgt := 21) hO dX6_tick_36 (by decide) ?_
          rw [nI_1]
          exact ih
      · intro hIk
        refine zr_iload_2 hO dX6_tick_21 ?_
        refine zr_iload_1 hO dX6_tick_22 ?_
        refine zr_icmp_ge (tgt := 39) hO dX6_tick_23 (by decide) (fun c23 => ?_) (fun c23 => ?_)
        · refine zr_aload_0 hO dX6_tick_39 ?_
          refine zr_getfr (c := 6) hO (by decide) (by decide) zf_X6_10 hX rfl rfl dX6_tick_40 ?_
          refine zg_getfi0 (c := 0) hO (zC_0 hM) (by decide) (by decide) (by decide) zf_X6_136 rfl dX6_tick_43 ?_
          exact zr_ireturn hO hE dX6_tick_46 (fun z9 hz9 => zPx_i hz9 (by first | ((simp only [cP_tick, cF_ticks, if_neg c2, if_neg c8, if_neg c23]) <;> rfl) | contradiction))
        · exact absurd c23 (zlt_F h0)
