set_option maxRecDepth 100000 in
set_option maxHeartbeats 4000000 in
theorem e_X7_next {l : Launch} {G : zGm} {d n o : Nat} {ly : zLy} {τ : zTu} {σ M : zSg} {its place : Int32} (htr : l.stackTraces = false) (hM : zM ly o) (hd : 2 ≤ d) (hW : zmW M) : zEv l G d 0 0 (yX7_next, cX7_next, 5, some .int) [.ref o, .int its, .int place] (fun x => n ≤ x) ly τ (zwr σ o 103 M) (zPl n ly τ (zwr σ o 103 M) (some (.int (mF_next M its place)))) := by
  refine zEv_of (ls := [some (.ref o), some (.int its), some (.int place), none, none, none, none, none, none]) htr (by decide) (Nat.le_of_ble_eq_true rfl) rfl (fun X hO hE hN hRm hL hNm => ?_)
  have hO : zOk G X RX7 cX7_next 5 := hO
  refine zr_iconst (v := (-1)) hO dX7_next_0 (by decide) ?_
  refine zr_istore_3 hO dX7_next_1 (by decide) rfl ?_
  refine zr_iconst (v := 0) hO dX7_next_2 (by decide) ?_
  refine zr_istore_4 hO dX7_next_3 (by decide) rfl ?_
  refine z_for (P := fun k s => zV G X 5 0 0 (fun x => n ≤ x) ly τ (zwr σ o 103 M) 5 [some (.ref o), some (.int its), some (.int place), some (.int s), some (.int (nI k)), none, none, none, none] []) (ix (M 0 15)) (mB_next M its place) (fun _ s => zr1 s (-1) 15) (-1) ⟨by decide, by decide⟩ (fun i s hi hs => zr_next1 M its place (by have := zmW_n16 hW; omega) hs) ?_ ?_
  · intro k s hk hIk ih
    have hk16 : k < 16 := by have := zmW_n16 hW; omega
    refine zr_iload_4 hO dX7_next_5 ?_
    refine zr_aload_0 hO dX7_next_7 ?_
    refine zg_getfi0 (c := 7) hO (zM_0 hM) (by decide) (by decide) (by decide) zf_X7_110 rfl dX7_next_8 ?_
    refine zr_icmp_ge (tgt := 107) hO dX7_next_11 (by decide) (fun c11 => ?_) (fun c11 => ?_)
    · exact absurd (zlt_T (zmW_n hW) hk) c11
    · refine zr_aload_0 hO dX7_next_14 ?_
      refine zr_getfr (c := 7) hO (by decide) (by decide) zf_X7_46 (zM_0 hM) rfl rfl dX7_next_15 ?_
      refine zr_iload_4 hO dX7_next_18 ?_
      refine zg_ialdN hO (zM_41 hM) (by decide) (by omega) (by decide) dX7_next_20 ?_
      refine zr_iload_1 hO dX7_next_21 ?_
      refine zr_icmp_ne (tgt := 101) hO dX7_next_22 (by decide) (fun c22 => ?_) (fun c22 => ?_)
      · refine zr_iinc_4 (v := 1) hO dX7_next_101 (by decide) (by decide) rfl ?_
        refine zr_goto (tgt := 5) hO dX7_next_104 (by decide) ?_
        rw [nI_1]
        simp only [mB_next, if_pos c11, if_neg c22] at ih
        exact ih
      · refine zr_aload_0 hO dX7_next_25 ?_
        refine zr_getfr (c := 7) hO (by decide) (by decide) zf_X7_70 (zM_0 hM) rfl rfl dX7_next_26 ?_
        refine zr_iload_4 hO dX7_next_29 ?_
        refine zg_ialdN hO (zM_49 hM) (by decide) (by omega) (by decide) dX7_next_31 ?_
        refine zr_iload_2 hO dX7_next_32 ?_
        refine zr_icmp_eq (tgt := 39) hO dX7_next_33 (by decide) (fun c33 => ?_) (fun c33 => ?_)
        · refine zr_iload_3 hO dX7_next_39 ?_
          refine zr_iconst (v := (-1)) hO dX7_next_40 (by decide) ?_
          refine zr_icmp_eq (tgt := 98) hO dX7_next_41 (by decide) (fun c41 => ?_) (fun c41 => ?_)
          · refine zr_iload_4 hO dX7_next_98 ?_
            refine zr_istore_3 hO dX7_next_100 (by decide) rfl ?_
            refine zr_iinc_4 (v := 1) hO dX7_next_101 (by decide) (by decide) rfl ?_
            refine zr_goto (tgt := 5) hO dX7_next_104 (by decide) ?_
            rw [nI_1]
            simp only [mB_next, if_pos c11, if_pos c22, if_pos c33, if_pos c41] at ih
            exact ih
          · refine zr_iload_1 hO dX7_next_44 ?_
            refine zr_iconst (v := 4) hO dX7_next_45 (by decide) ?_
            refine zr_icmp_ne (tgt := 63) hO dX7_next_46 (by decide) (fun c46 => ?_) (fun c46 => ?_)
            · refine zr_iload_1 hO dX7_next_63 ?_
              refine zr_iconst (v := 5) hO dX7_next_64 (by decide) ?_
              refine zr_icmp_eq (tgt := 82) hO dX7_next_65 (by decide) (fun c65 => ?_) (fun c65 => ?_)
              · refine zr_aload_0 hO dX7_next_82 ?_
                refine zr_getfr (c := 7) hO (by decide) (by decide) zf_X7_73 (zM_0 hM) rfl rfl dX7_next_83 ?_
                refine zr_iload_4 hO dX7_next_86 ?_
                refine zg_ialdN hO (zM_50 hM) (by decide) (by omega) (by decide) dX7_next_88 ?_
                refine zr_aload_0 hO dX7_next_89 ?_
                refine zr_getfr (c := 7) hO (by decide) (by decide) zf_X7_73 (zM_0 hM) rfl rfl dX7_next_90 ?_
                refine zr_iload_3 hO dX7_next_93 ?_
                refine zg_iald hO (zM_50 hM) (by decide) (by first | assumption | exact zin_m1 hIk (by decide) c41) dX7_next_94 ?_
                refine zr_icmp_ge (tgt := 101) hO dX7_next_95 (by decide) (fun c95 => ?_) (fun c95 => ?_)
                · refine zr_iinc_4 (v := 1) hO dX7_next_101 (by decide) (by decide) rfl ?_
                  refine zr_goto (tgt := 5) hO dX7_next_104 (by decide) ?_
                  rw [nI_1]
                  simp only [mB_next, if_pos c11, if_pos c22, if_pos c33, if_neg c41, if_neg c46, if_pos c65, if_neg c95] at ih
                  exact ih
                · refine zr_iload_4 hO dX7_next_98 ?_
                  refine zr_istore_3 hO dX7_next_100 (by decide) rfl ?_
                  refine zr_iinc_4 (v := 1) hO dX7_next_101 (by decide) (by decide) rfl ?_
                  refine zr_goto (tgt := 5) hO dX7_next_104 (by decide) ?_
                  rw [nI_1]
                  simp only [mB_next, if_pos c11, if_pos c22, if_pos c33, if_neg c41, if_neg c46, if_pos c65, if_pos c95] at ih
                  exact ih
              · refine zr_aload_0 hO dX7_next_68 ?_
                refine zr_iload_4 hO dX7_next_69 ?_
                refine zr_V1 (D := d) hO hRm hL (by omega) (by decide) (c := 7) (by decide) (zM_0 hM) rfl rfl (e_X7_lentNow (d := d - 1) htr hM (by omega) hW (vp_in_nI (by omega) (by decide))) zl_X7_150 zi_X7_lentNow zs_X7_lentNow zc_X7_lentNow zn_X7 zd_X7_lentNow (Nat.le_of_ble_eq_true rfl) dX7_next_71 (by omega) (by omega) ?_
                refine zr_aload_0 hO dX7_next_74 ?_
                refine zr_iload_3 hO dX7_next_75 ?_
                refine zr_V1 (D := d) hO hRm hL (by omega) (by decide) (c := 7) (by decide) (zM_0 hM) rfl rfl (e_X7_lentNow (d := d - 1) htr hM (by omega) hW (by first | assumption | exact zin_m1 hIk (by decide) c41)) zl_X7_150 zi_X7_lentNow zs_X7_lentNow zc_X7_lentNow zn_X7 zd_X7_lentNow (Nat.le_of_ble_eq_true rfl) dX7_next_76 (by omega) (by omega) ?_
                refine zr_icmp_ne (tgt := 101) hO dX7_next_79 (by decide) (fun c79 => ?_) (fun c79 => ?_)
                · refine zr_iinc_4 (v := 1) hO dX7_next_101 (by decide) (by decide) rfl ?_
                  refine zr_goto (tgt := 5) hO dX7_next_104 (by decide) ?_
                  rw [nI_1]
                  simp only [mB_next, if_pos c11, if_pos c22, if_pos c33, if_neg c41, if_neg c46, if_neg c65, if_neg c79] at ih
                  exact ih
                · refine zr_aload_0 hO dX7_next_82 ?_
                  refine zr_getfr (c := 7) hO (by decide) (by decide) zf_X7_73 (zM_0 hM) rfl rfl dX7_next_83 ?_
                  refine zr_iload_4 hO dX7_next_86 ?_
                  refine zg_ialdN hO (zM_50 hM) (by decide) (by omega) (by decide) dX7_next_88 ?_
                  refine zr_aload_0 hO dX7_next_89 ?_
                  refine zr_getfr (c := 7) hO (by decide) (by decide) zf_X7_73 (zM_0 hM) rfl rfl dX7_next_90 ?_
                  refine zr_iload_3 hO dX7_next_93 ?_
                  refine zg_iald hO (zM_50 hM) (by decide) (by first | assumption | exact zin_m1 hIk (by decide) c41) dX7_next_94 ?_
                  refine zr_icmp_ge (tgt := 101) hO dX7_next_95 (by decide) (fun c95 => ?_) (fun c95 => ?_)
                  · refine zr_iinc_4 (v := 1) hO dX7_next_101 (by decide) (by decide) rfl ?_
                    refine zr_goto (tgt := 5) hO dX7_next_104 (by decide) ?_
                    rw [nI_1]
                    simp only [mB_next, if_pos c11, if_pos c22, if_pos c33, if_neg c41, if_neg c46, if_neg c65, if_pos c79, if_neg c95] at ih
                    exact ih
                  · refine zr_iload_4 hO dX7_next_98 ?_
                    refine zr_istore_3 hO dX7_next_100 (by decide) rfl ?_
                    refine zr_iinc_4 (v := 1) hO dX7_next_101 (by decide) (by decide) rfl ?_
                    refine zr_goto (tgt := 5) hO dX7_next_104 (by decide) ?_
                    rw [nI_1]
                    simp only [mB_next, if_pos c11, if_pos c22, if_pos c33, if_neg c41, if_neg c46, if_neg c65, if_pos c79, if_pos c95] at ih
                    exact ih
            · refine zr_aload_0 hO dX7_next_49 ?_
              refine zr_iload_4 hO dX7_next_50 ?_
              refine zr_V1 (D := d) hO hRm hL (by omega) (by decide) (c := 7) (by decide) (zM_0 hM) rfl rfl (e_X7_lentNow (d := d - 1) htr hM (by omega) hW (vp_in_nI (by omega) (by decide))) zl_X7_150 zi_X7_lentNow zs_X7_lentNow zc_X7_lentNow zn_X7 zd_X7_lentNow (Nat.le_of_ble_eq_true rfl) dX7_next_52 (by omega) (by omega) ?_
              refine zr_aload_0 hO dX7_next_55 ?_
              refine zr_iload_3 hO dX7_next_56 ?_
              refine zr_V1 (D := d) hO hRm hL (by omega) (by decide) (c := 7) (by decide) (zM_0 hM) rfl rfl (e_X7_lentNow (d := d - 1) htr hM (by omega) hW (by first | assumption | exact zin_m1 hIk (by decide) c41)) zl_X7_150 zi_X7_lentNow zs_X7_lentNow zc_X7_lentNow zn_X7 zd_X7_lentNow (Nat.le_of_ble_eq_true rfl) dX7_next_57 (by omega) (by omega) ?_
              refine zr_icmp_lt (tgt := 98) hO dX7_next_60 (by decide) (fun c60 => ?_) (fun c60 => ?_)
              · refine zr_iload_4 hO dX7_next_98 ?_
                refine zr_istore_3 hO dX7_next_100 (by decide) rfl ?_
                refine zr_iinc_4 (v := 1) hO dX7_next_101 (by decide) (by decide) rfl ?_
                refine zr_goto (tgt := 5) hO dX7_next_104 (by decide) ?_
                rw [nI_1]
                simp only [mB_next, if_pos c11, if_pos c22, if_pos c33, if_neg c41, if_pos c46, if_pos c60] at ih
                exact ih
              · refine zr_iload_1 hO dX7_next_63 ?_
                refine zr_iconst (v := 5) hO dX7_next_64 (by decide) ?_
                refine zr_icmp_eq (tgt := 82) hO dX7_next_65 (by decide) (fun c65 => ?_) (fun c65 => ?_)
                · refine zr_aload_0 hO dX7_next_82 ?_
                  refine zr_getfr (c := 7) hO (by decide) (by decide) zf_X7_73 (zM_0 hM) rfl rfl dX7_next_83 ?_
                  refine zr_iload_4 hO dX7_next_86 ?_
                  refine zg_ialdN hO (zM_50 hM) (by decide) (by omega) (by decide) dX7_next_88 ?_
                  refine zr_aload_0 hO dX7_next_89 ?_
                  refine zr_getfr (c := 7) hO (by decide) (by decide) zf_X7_73 (zM_0 hM) rfl rfl dX7_next_90 ?_
                  refine zr_iload_3 hO dX7_next_93 ?_
                  refine zg_iald hO (zM_50 hM) (by decide) (by first | assumption | exact zin_m1 hIk (by decide) c41) dX7_next_94 ?_
                  refine zr_icmp_ge (tgt := 101) hO dX7_next_95 (by decide) (fun c95 => ?_) (fun c95 => ?_)
                  · refine zr_iinc_4 (v := 1) hO dX7_next_101 (by decide) (by decide) rfl ?_
                    refine zr_goto (tgt := 5) hO dX7_next_104 (by decide) ?_
                    rw [nI_1]
                    simp only [mB_next, if_pos c11, if_pos c22, if_pos c33, if_neg c41, if_pos c46, if_neg c60, if_pos c65, if_neg c95] at ih
                    exact ih
                  · refine zr_iload_4 hO dX7_next_98 ?_
                    refine zr_istore_3 hO dX7_next_100 (by decide) rfl ?_
                    refine zr_iinc_4 (v := 1) hO dX7_next_101 (by decide) (by decide) rfl ?_
                    refine zr_goto (tgt := 5) hO dX7_next_104 (by decide) ?_
                    rw [nI_1]
                    simp only [mB_next, if_pos c11, if_pos c22, if_pos c33, if_neg c41, if_pos c46, if_neg c60, if_pos c65, if_pos c95] at ih
                    exact ih
                · refine zr_aload_0 hO dX7_next_68 ?_
                  refine zr_iload_4 hO dX7_next_69 ?_
                  refine zr_V1 (D := d) hO hRm hL (by omega) (by decide) (c := 7) (by decide) (zM_0 hM) rfl rfl (e_X7_lentNow (d := d - 1) htr hM (by omega) hW (vp_in_nI (by omega) (by decide))) zl_X7_150 zi_X7_lentNow zs_X7_lentNow zc_X7_lentNow zn_X7 zd_X7_lentNow (Nat.le_of_ble_eq_true rfl) dX7_next_71 (by omega) (by omega) ?_
                  refine zr_aload_0 hO dX7_next_74 ?_
                  refine zr_iload_3 hO dX7_next_75 ?_
                  refine zr_V1 (D := d) hO hRm hL (by omega) (by decide) (c := 7) (by decide) (zM_0 hM) rfl rfl (e_X7_lentNow (d := d - 1) htr hM (by omega) hW (by first | assumption | exact zin_m1 hIk (by decide) c41)) zl_X7_150 zi_X7_lentNow zs_X7_lentNow zc_X7_lentNow zn_X7 zd_X7_lentNow (Nat.le_of_ble_eq_true rfl) dX7_next_76 (by omega) (by omega) ?_
                  refine zr_icmp_ne (tgt := 101) hO dX7_next_79 (by decide) (fun c79 => ?_) (fun c79 => ?_)
                  · refine zr_iinc_4 (v := 1) hO dX7_next_101 (by decide) (by decide) rfl ?_
                    refine zr_goto (tgt := 5) hO dX7_next_104 (by decide) ?_
                    rw [nI_1]
                    simp only [mB_next, if_pos c11, if_pos c22, if_pos c33, if_neg c41, if_pos c46, if_neg c60, if_neg c65, if_neg c79] at ih
                    exact ih
                  · refine zr_aload_0 hO dX7_next_82 ?_
                    refine zr_getfr (c := 7) hO (by decide) (by decide) zf_X7_73 (zM_0 hM) rfl rfl dX7_next_83 ?_
                    refine zr_iload_4 hO dX7_next_86 ?_
                    refine zg_ialdN hO (zM_50 hM) (by decide) (by omega) (by decide) dX7_next_88 ?_
                    refine zr_aload_0 hO dX7_next_89 ?_
                    refine zr_getfr (c := 7) hO (by decide) (by decide) zf_X7_73 (zM_0 hM) rfl rfl dX7_next_90 ?_
                    refine zr_iload_3 hO dX7_next_93 ?_
                    refine zg_iald hO (zM_50 hM) (by decide) (by first | assumption | exact zin_m1 hIk (by decide) c41) dX7_next_94 ?_
                    refine zr_icmp_ge (tgt := 101) hO dX7_next_95 (by decide) (fun c95 => ?_) (fun c95 => ?_)
                    · refine zr_iinc_4 (v := 1) hO dX7_next_101 (by decide) (by decide) rfl ?_
                      refine zr_goto (tgt := 5) hO dX7_next_104 (by decide) ?_
                      rw [nI_1]
                      simp only [mB_next, if_pos c11, if_pos c22, if_pos c33, if_neg c41, if_pos c46, if_neg c60, if_neg c65, if_pos c79, if_neg c95] at ih
                      exact ih
                    · refine zr_iload_4 hO dX7_next_98 ?_
                      refine zr_istore_3 hO dX7_next_100 (by decide) rfl ?_
                      refine zr_iinc_4 (v := 1) hO dX7_next_101 (by decide) (by decide) rfl ?_
                      refine zr_goto (tgt := 5) hO dX7_next_104 (by decide) ?_
                      rw [nI_1]
                      simp only [mB_next, if_pos c11, if_pos c22, if_pos c33, if_neg c41, if_pos c46, if_neg c60, if_neg c65, if_pos c79, if_pos c95] at ih
                      exact ih
        · refine zr_goto (tgt := 101) hO dX7_next_36 (by decide) ?_
          refine zr_iinc_4 (v := 1) hO dX7_next_101 (by decide) (by decide) rfl ?_
          refine zr_goto (tgt := 5) hO dX7_next_104 (by decide) ?_
          rw [nI_1]
          simp only [mB_next, if_pos c11, if_pos c22, if_neg c33] at ih
          exact ih
  · intro hIk
    refine zr_iload_4 hO dX7_next_5 ?_
    refine zr_aload_0 hO dX7_next_7 ?_
    refine zg_getfi0 (c := 7) hO (zM_0 hM) (by decide) (by decide) (by decide) zf_X7_110 rfl dX7_next_8 ?_
    refine zr_icmp_ge (tgt := 107) hO dX7_next_11 (by decide) (fun c11 => ?_) (fun c11 => ?_)
    · refine zr_iload_3 hO dX7_next_107 ?_
      exact zr_ireturn hO hE dX7_next_108 (zpl_i (by (simp only [mF_next, if_neg c11]) <;> rfl) rfl)
    · exact absurd c11 (zlt_F (zmW_n hW))
set_option maxRecDepth 100000 in
set_option maxHeartbeats 4000000 in
theorem e_X7_free {l : Launch} {G : zGm} {d n o : Nat} {ly : zLy} {τ : zTu} {σ M : zSg} {q : Int32} (htr : l.stackTraces = false) (hM : zM ly o) (hd : 3 ≤ d) (hW : zmW M) (hq : vp_in q 6) : zEv l G d 0 0 (yX7_free, cX7_free, 3, none) [.ref o, .int q] (fun x => n ≤ x) ly τ (zwr σ o 103 M) (zPl n ly τ (zwr σ o 103 (mF_free M q)) none) := by
  refine zEv_of (ls := [some (.ref o), some (.int q), none, none, none, none, none, none, none]) htr (by decide) (Nat.le_of_ble_eq_true rfl) rfl (fun X hO hE hN hRm hL hNm => ?_)
  have hO : zOk G X RX7 cX7_free 3 := hO
  have hW1 : zmW (zup M 101 (ix q) (-1)) := zmW_up hW (f := 101) zr_m1
  refine zr_aload_0 hO dX7_free_0 ?_
  refine zr_getfr (c := 7) hO (by decide) (by decide) zf_X7_88 (zM_0 hM) rfl rfl dX7_free_1 ?_
  refine zr_iload_1 hO dX7_free_4 ?_
  refine zr_iconst (v := (-1)) hO dX7_free_5 (by decide) ?_
  refine zg_iast hO (zM_101 hM) (by decide) (by first | assumption | exact zin_m1 (zr_next hW1 _ _) (by decide) c16) dX7_free_6 ?_
  refine zr_aload_0 hO dX7_free_7 ?_
  refine zr_iconst (v := 4) hO dX7_free_8 (by decide) ?_
  refine zr_iload_1 hO dX7_free_9 ?_
  refine zr_V2 (D := d) hO hRm hL (by omega) (by decide) (c := 7) (by decide) (zM_0 hM) rfl rfl (e_X7_next (d := d - 1) htr hM (by omega) hW1) zl_X7_153 zi_X7_next zs_X7_next zc_X7_next zn_X7 zd_X7_next (Nat.le_of_ble_eq_true rfl) dX7_free_10 (by omega) (by omega) ?_
  refine zr_istore_2 hO dX7_free_13 (by decide) rfl ?_
  refine zr_iload_2 hO dX7_free_14 ?_
  refine zr_iconst (v := (-1)) hO dX7_free_15 (by decide) ?_
  refine zr_icmp_ne (tgt := 20) hO dX7_free_16 (by decide) (fun c16 => ?_) (fun c16 => ?_)
  · refine zr_aload_0 hO dX7_free_20 ?_
    refine zr_getfr (c := 7) hO (by decide) (by decide) zf_X7_88 (zM_0 hM) rfl rfl dX7_free_21 ?_
    refine zr_iload_1 hO dX7_free_24 ?_
    refine zr_iload_2 hO dX7_free_25 ?_
    refine zg_iast hO (zM_101 hM) (by decide) (by first | assumption | exact zin_m1 (zr_next hW1 _ _) (by decide) c16) dX7_free_26 ?_
    refine zr_aload_0 hO dX7_free_27 ?_
    refine zr_getfr (c := 7) hO (by decide) (by decide) zf_X7_49 (zM_0 hM) rfl rfl dX7_free_28 ?_
    refine zr_iload_2 hO dX7_free_31 ?_
    refine zr_dup2 hO dX7_free_32 rfl rfl ?_
    refine zg_iald hO (zM_42 hM) (by decide) (by first | assumption | exact zin_m1 (zr_next hW1 _ _) (by decide) c16) dX7_free_33 ?_
    refine zr_iconst (v := 1) hO dX7_free_34 (by decide) ?_
    refine zr_iadd hO dX7_free_35 ?_
    refine zg_iast hO (zM_42 hM) (by decide) (by first | assumption | exact zin_m1 (zr_next hW1 _ _) (by decide) c16) dX7_free_36 ?_
    refine zr_aload_0 hO dX7_free_37 ?_
    refine zr_iload_2 hO dX7_free_38 ?_
    refine zr_V1 (D := d) hO hRm hL (by omega) (by decide) (c := 7) (by decide) (zM_0 hM) rfl rfl (e_X7_wake (d := d - 1) htr hM (by omega) (zmW_up (zmW_up hW1 (f := 101) (zr_next hW1 _ _)) (f := 42) (zr_any _)) (zin_m1 (zr_next hW1 _ _) (by decide) c16)) zl_X7_156 zi_X7_wake zs_X7_wake zc_X7_wake zn_X7 zd_X7_wake (Nat.le_of_ble_eq_true rfl) dX7_free_39 (by omega) (by omega) ?_
    exact zr_return hO hE dX7_free_42 (zpl_v (by (simp only [mF_free, if_neg c16]) <;> rfl))
  · exact zr_return hO hE dX7_free_19 (zpl_v (by (simp only [mF_free, if_pos c16]) <;> rfl))
set_option maxRecDepth 100000 in
set_option maxHeartbeats 4000000 in
theorem e_X7_signalNow {l : Launch} {G : zGm} {d n o : Nat} {ly : zLy} {τ : zTu} {σ M : zSg} {q : Int32} (htr : l.stackTraces = false) (hM : zM ly o) (hd : 3 ≤ d) (hW : zmW M) (hq : vp_in q 6) : zEv l G d 0 0 (yX7_signalNow, cX7_signalNow, 3, none) [.ref o, .int q] (fun x => n ≤ x) ly τ (zwr σ o 103 M) (zPl n ly τ (zwr σ o 103 (mF_signal M q)) none) := by
  refine zEv_of (ls := [some (.ref o), some (.int q), none, none, none, none, none, none, none]) htr (by decide) (Nat.le_of_ble_eq_true rfl) rfl (fun X hO hE hN hRm hL hNm => ?_)
  have hO : zOk G X RX7 cX7_signalNow 3 := hO
  refine zr_aload_0 hO dX7_signalNow_0 ?_
  refine zr_iconst (v := 5) hO dX7_signalNow_1 (by decide) ?_
  refine zr_iload_1 hO dX7_signalNow_2 ?_
  refine zr_V2 (D := d) hO hRm hL (by omega) (by decide) (c := 7) (by decide) (zM_0 hM) rfl rfl (e_X7_next (d := d - 1) htr hM (by omega) hW) zl_X7_153 zi_X7_next zs_X7_next zc_X7_next zn_X7 zd_X7_next (Nat.le_of_ble_eq_true rfl) dX7_signalNow_3 (by omega) (by omega) ?_
  refine zr_istore_2 hO dX7_signalNow_6 (by decide) rfl ?_
  refine zr_iload_2 hO dX7_signalNow_7 ?_
  refine zr_iconst (v := (-1)) hO dX7_signalNow_8 (by decide) ?_
  refine zr_icmp_ne (tgt := 32) hO dX7_signalNow_9 (by decide) (fun c9 => ?_) (fun c9 => ?_)
  · refine zr_aload_0 hO dX7_signalNow_32 ?_
    refine zr_getfr (c := 7) hO (by decide) (by decide) zf_X7_49 (zM_0 hM) rfl rfl dX7_signalNow_33 ?_
    refine zr_iload_2 hO dX7_signalNow_36 ?_
    refine zr_dup2 hO dX7_signalNow_37 rfl rfl ?_
    refine zg_iald hO (zM_42 hM) (by decide) (by first | assumption | exact zin_m1 (zr_next hW _ _) (by decide) c9) dX7_signalNow_38 ?_
    refine zr_iconst (v := 1) hO dX7_signalNow_39 (by decide) ?_
    refine zr_iadd hO dX7_signalNow_40 ?_
    refine zg_iast hO (zM_42 hM) (by decide) (by first | assumption | exact zin_m1 (zr_next hW _ _) (by decide) c9) dX7_signalNow_41 ?_
    refine zr_aload_0 hO dX7_signalNow_42 ?_
    refine zr_iload_2 hO dX7_signalNow_43 ?_
    refine zr_V1 (D := d) hO hRm hL (by omega) (by decide) (c := 7) (by decide) (zM_0 hM) rfl rfl (e_X7_wake (d := d - 1) htr hM (by omega) (zmW_up hW (f := 42) (zr_any _)) (zin_m1 (zr_next hW _ _) (by decide) c9)) zl_X7_156 zi_X7_wake zs_X7_wake zc_X7_wake zn_X7 zd_X7_wake (Nat.le_of_ble_eq_true rfl) dX7_signalNow_44 (by omega) (by omega) ?_
    exact zr_return hO hE dX7_signalNow_47 (zpl_v (by (simp only [mF_signal, if_neg c9]) <;> rfl))
  · refine zr_aload_0 hO dX7_signalNow_12 ?_
    refine zr_getfr (c := 7) hO (by decide) (by decide) zf_X7_91 (zM_0 hM) rfl rfl dX7_signalNow_13 ?_
    refine zr_iload_1 hO dX7_signalNow_16 ?_
    refine zr_bipush (v := 99) hO dX7_signalNow_17 (by decide) ?_
    refine zr_aload_0 hO dX7_signalNow_19 ?_
    refine zr_getfr (c := 7) hO (by decide) (by decide) zf_X7_91 (zM_0 hM) rfl rfl dX7_signalNow_20 ?_
    refine zr_iload_1 hO dX7_signalNow_23 ?_
    refine zg_iald hO (zM_102 hM) (by decide) (by first | assumption | exact zin_m1 (zr_next hW _ _) (by decide) c9) dX7_signalNow_24 ?_
    refine zr_iconst (v := 1) hO dX7_signalNow_25 (by decide) ?_
    refine zr_iadd hO dX7_signalNow_26 ?_
    refine zr_mmin hO (by omega) hRm zl_X7_134 dX7_signalNow_27 (Nat.le_of_ble_eq_true rfl) ?_
    refine zg_iast hO (zM_102 hM) (by decide) (by first | assumption | exact zin_m1 (zr_next hW _ _) (by decide) c9) dX7_signalNow_30 ?_
    exact zr_return hO hE dX7_signalNow_31 (zpl_v (by (simp only [mF_signal, if_pos c9]) <;> rfl))
set_option maxRecDepth 100000 in
set_option maxHeartbeats 4000000 in
theorem e_X7_finish {l : Launch} {G : zGm} {d n o : Nat} {ly : zLy} {τ : zTu} {σ M : zSg} {t : Int32} (htr : l.stackTraces = false) (hM : zM ly o) (hd : 4 ≤ d) (hW : zmW M) (ht : vp_in t 16) : zEv l G d 0 0 (yX7_finish, cX7_finish, 3, none) [.ref o, .int t] (fun x => n ≤ x) ly τ (zwr σ o 103 M) (zPl n ly τ (zwr σ o 103 (mF_finish M t)) none) := by
  refine zEv_of (ls := [some (.ref o), some (.int t), none, none, none, none, none, none, none]) htr (by decide) (Nat.le_of_ble_eq_true rfl) rfl (fun X hO hE hN hRm hL hNm => ?_)
  have hO : zOk G X RX7 cX7_finish 3 := hO
  refine zr_aload_0 hO dX7_finish_0 ?_
  refine zr_iload_1 hO dX7_finish_1 ?_
  refine zr_V1 (D := d) hO hRm hL (by omega) (by decide) (c := 7) (by decide) (zM_0 hM) rfl rfl (e_X7_leave (d := d - 1) htr hM (by omega) hW) zl_X7_159 zi_X7_leave zs_X7_leave zc_X7_leave zn_X7 zd_X7_leave (Nat.le_of_ble_eq_true rfl) dX7_finish_2 (by omega) (by omega) ?_
  refine zr_aload_0 hO dX7_finish_5 ?_
  refine zr_getfr (c := 7) hO (by decide) (by decide) zf_X7_46 (zM_0 hM) rfl rfl dX7_finish_6 ?_
  refine zr_iload_1 hO dX7_finish_9 ?_
  refine zr_bipush (v := 6) hO dX7_finish_10 (by decide) ?_
  refine zg_iast hO (zM_41 hM) (by decide) (by first | assumption | exact (by decide : vp_in (4 : Int32) 5)) dX7_finish_12 ?_
  refine zr_aload_0 hO dX7_finish_13 ?_
  refine zr_getfr (c := 7) hO (by decide) (by decide) zf_X7_49 (zM_0 hM) rfl rfl dX7_finish_14 ?_
  refine zr_iload_1 hO dX7_finish_17 ?_
  refine zr_aload_0 hO dX7_finish_18 ?_
  refine zr_getfr (c := 7) hO (by decide) (by decide) zf_X7_35 (zM_0 hM) rfl rfl dX7_finish_19 ?_
  refine zr_iload_1 hO dX7_finish_22 ?_
  refine zg_iald hO (zM_6 hM) (by decide) (by first | assumption | exact (by decide : vp_in (4 : Int32) 5)) dX7_finish_23 ?_
  refine zg_iast hO (zM_42 hM) (by decide) (by first | assumption | exact (by decide : vp_in (4 : Int32) 5)) dX7_finish_24 ?_
  refine zr_aload_0 hO dX7_finish_25 ?_
  refine zr_getfr (c := 7) hO (by decide) (by decide) zf_X7_76 (zM_0 hM) rfl rfl dX7_finish_26 ?_
  refine zr_iload_1 hO dX7_finish_29 ?_
  refine zr_aaldIx hO (zM_51 hM) (by first | assumption | exact (by decide : vp_in (4 : Int32) 5)) dX7_finish_30 (fun hx30_0 => ?_)
  refine zr_iconst (v := 4) hO dX7_finish_31 (by decide) ?_
  refine zr_aload_0 hO dX7_finish_32 ?_
  refine zg_getfi0 (c := 7) hO (zM_0 hM) (by decide) (by decide) (by decide) zf_X7_95 rfl dX7_finish_33 ?_
  refine zg_iast hO (zM_cnt hM hx30_0) (by have := hx30_0; omega) (by first | assumption | exact (by decide : vp_in (4 : Int32) 5)) dX7_finish_36 ?_
  refine zr_iconst (v := 0) hO dX7_finish_37 (by decide) ?_
  refine zr_istore_2 hO dX7_finish_38 (by decide) rfl ?_
  refine z_for (P := fun k s => zV G X 3 0 0 (fun x => n ≤ x) ly τ (zwr σ o 103 s) 39 [some (.ref o), some (.int t), some (.int (nI k)), none, none, none, none, none, none] []) 6 (mB_finish t) (fun _ s => zk M s) (zup (zup (zup (mF_leave M t) 41 (ix t) 6) 42 (ix t) ((zup (mF_leave M t) 41 (ix t) 6) 6 (ix t))) (52 + ix t) (ix 4) ((zup (zup (mF_leave M t) 41 (ix t) 6) 42 (ix t) ((zup (mF_leave M t) 41 (ix t) 6) 6 (ix t))) 0 1)) (zk_cnt (zk_up (zk_up (zk_leave (zk_r hW) t) (f := 41) (by rfl) zst_6) (f := 42) (by rfl) (zr_any _)) (zin_lt ht) _ _) (fun i s _ h => by unfold mB_finish; split <;> first | exact h | exact zk_free h _) ?_ ?_
  · intro k s hk hIk ih
    refine zr_iload_2 hO dX7_finish_39 ?_
    refine zr_bipush (v := 6) hO dX7_finish_40 (by decide) ?_
    refine zr_icmp_ge (tgt := 66) hO dX7_finish_42 (by decide) (fun c42 => ?_) (fun c42 => ?_)
    · exact absurd (zlt_T (x := 6) (by decide) hk) c42
    · refine zr_aload_0 hO dX7_finish_45 ?_
      refine zr_getfr (c := 7) hO (by decide) (by decide) zf_X7_88 (zM_0 hM) rfl rfl dX7_finish_46 ?_
      refine zr_iload_2 hO dX7_finish_49 ?_
      refine zg_ialdN hO (zM_101 hM) (by decide) (by omega) (by decide) dX7_finish_50 ?_
      refine zr_iload_1 hO dX7_finish_51 ?_
      refine zr_icmp_ne (tgt := 60) hO dX7_finish_52 (by decide) (fun c52 => ?_) (fun c52 => ?_)
      · refine zr_iinc_2 (v := 1) hO dX7_finish_60 (by decide) (by decide) rfl ?_
        refine zr_goto (tgt := 39) hO dX7_finish_63 (by decide) ?_
        rw [nI_1]
        simp only [mB_finish, if_pos c42, if_neg c52] at ih
        exact ih
      · refine zr_aload_0 hO dX7_finish_55 ?_
        refine zr_iload_2 hO dX7_finish_56 ?_
        refine zr_V1 (D := d) hO hRm hL (by omega) (by decide) (c := 7) (by decide) (zM_0 hM) rfl rfl (e_X7_free (d := d - 1) htr hM (by omega) hIk.1 (vp_in_nI hk (by decide))) zl_X7_162 zi_X7_free zs_X7_free zc_X7_free zn_X7 zd_X7_free (Nat.le_of_ble_eq_true rfl) dX7_finish_57 (by omega) (by omega) ?_
        refine zr_iinc_2 (v := 1) hO dX7_finish_60 (by decide) (by decide) rfl ?_
        refine zr_goto (tgt := 39) hO dX7_finish_63 (by decide) ?_
        rw [nI_1]
        simp only [mB_finish, if_pos c42, if_pos c52] at ih
        exact ih
  · intro hIk
    refine zr_iload_2 hO dX7_finish_39 ?_
    refine zr_bipush (v := 6) hO dX7_finish_40 (by decide) ?_
    refine zr_icmp_ge (tgt := 66) hO dX7_finish_42 (by decide) (fun c42 => ?_) (fun c42 => ?_)
    · exact zr_return hO hE dX7_finish_66 (zpl_v (by (simp only [mF_finish, if_neg c42]) <;> rfl))
    · exact absurd c42 (zlt_F (x := 6) (by decide))
