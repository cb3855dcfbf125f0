set_option maxRecDepth 100000 in
set_option maxHeartbeats 4000000 in
theorem e_X7_next {l : Launch} {G : zGm} {d n o : Nat} {ly : zLy} {τ : zTu} {σ M : zSg} {its place : Int32} (htr : l.stackTraces = false) (hM : zM ly o) (hd : 2 ≤ d) (hW : zmW M) : zEv l G d 0 0 (yX7_next, cX7_next, 5, some .int) [.ref o, .int its, .int place] (fun x => n ≤ x) ly τ (zwr σ o 103 M) (zPl n ly τ (zwr σ o 103 M) (some (.int (mF_next M its place)))) := by
  refine zEv_of (ls := [some (.ref o), some (.int its), some (.int place), none, none, none, none, none, none]) htr (by decide) (Nat.le_of_ble_eq_true rfl) rfl (fun X hO hE hN hRm hL hNm => ?_)
  have hO : zOk G X RX7 cX7_next 5 := hO
  refine zr_iconst (v := (-1)) hO dX7_next_0 (by decide) ?_
  refine zr_istore_3 hO dX7_next_1 (by decide) rfl ?_
  refine zr_iconst (v := 0) hO dX7_next_2 (by decide) ?_
  refine zr_istore_4 hO dX7_next_3 (by decide) rfl ?_
  refine z_for (P := fun k s => zV G X 5 0 0 (fun x => n ≤ x) ly τ (zwr σ o 103 M) 5 [some (.ref o), some (.int its), some (.int place), some (.int s), some (.int (nI k)), none, none, none, none] []) (ix (M 0 15)) (mB_next M its place) (fun _ s => zr1 s (-1) 15) (-1) ⟨by decide, by decide⟩ (fun i s hi hs => zr_next1 M its place (by have := zmW_n16 hW; omega) hs) ?_ ?_
  · intro k s hk hIk ih
    have hk16 : k < 16 := by have := zmW_n16 hW; omega
    refine zr_iload_4 hO dX7_next_5 ?_
    refine zr_aload_0 hO dX7_next_7 ?_
    refine zg_getfi0 (c := 7) hO (zM_0 hM) (by decide) (by decide) (by decide) zf_X7_110 rfl dX7_next_8 ?_
    refine zr_icmp_ge (tgt := 107) hO dX7_next_11 (by decide) (fun c11 => ?_) (fun c11 => ?_)
    · exact absurd (zlt_T (zmW_n hW) hk) c11
    · refine zr_aload_0 hO dX7_next_14 ?_
      refine zr_getfr (c := 7) hO (by decide) (by decide) zf_X7_46 (zM_0 hM) rfl rfl dX7_next_15 ?_
      refine zr_iload_4 hO dX7_next_18 ?_
      refine zg_ialdN hO (zM_41 hM) (by decide) (by omega) (by decide) dX7_next_20 ?_
      refine zr_iload_1 hO dX7_next_21 ?_
      refine zr_icmp_ne (tgt := 101) hO dX7_next_22 (by decide) (fun c22 => ?_) (fun c22 => ?_)
      · refine zr_iinc_4 (v := 1) hO dX7_next_101 (by decide) (by decide) rfl ?_
        refine zr_goto (tgt := 5) hO dX7_next_104 (by decide) ?_
        rw [nI_1]
        simp only [mB_next, if_pos c11, if_neg c22] at ih
        first | exact ih | contradiction
      · refine zr_aload_0 hO dX7_next_25 ?_
        refine zr_getfr (c := 7) hO (by decide) (by decide) zf_X7_70 (zM_0 hM) rfl rfl dX7_next_26 ?_
        refine zr_iload_4 hO dX7_next_29 ?_
        refine zg_ialdN hO (zM_49 hM) (by decide) (by omega) (by decide) dX7_next_31 ?_
        refine zr_iload_2 hO dX7_next_32 ?_
        refine zr_icmp_eq (tgt := 39) hO dX7_next_33 (by decide) (fun c33 => ?_) (fun c33 => ?_)
        · refine zr_iload_3 hO dX7_next_39 ?_
          refine zr_iconst (v := (-1)) hO dX7_next_40 (by decide) ?_
          refine zr_icmp_eq (tgt := 98) hO dX7_next_41 (by decide) (fun c41 => ?_) (fun c41 => ?_)
          · refine zr_iload_4 hO dX7_next_98 ?_
            refine zr_istore_3 hO dX7_next_100 (by decide) rfl ?_
            refine zr_iinc_4 (v := 1) hO dX7_next_101 (by decide) (by decide) rfl ?_
            refine zr_goto (tgt := 5) hO dX7_next_104 (by decide) ?_
            rw [nI_1]
            simp only [mB_next, if_pos c11, if_pos c22, if_pos c33, if_pos c41] at ih
            first | exact ih | contradiction
          · refine zr_iload_1 hO dX7_next_44 ?_
            refine zr_iconst (v := 4) hO dX7_next_45 (by decide) ?_
            refine zr_icmp_ne (tgt := 63) hO dX7_next_46 (by decide) (fun c46 => ?_) (fun c46 => ?_)
            · refine zr_iload_1 hO dX7_next_63 ?_
              refine zr_iconst (v := 5) hO dX7_next_64 (by decide) ?_
              refine zr_icmp_eq (tgt := 82) hO dX7_next_65 (by decide) (fun c65 => ?_) (fun c65 => ?_)
              · refine zr_aload_0 hO dX7_next_82 ?_
                refine zr_getfr (c := 7) hO (by decide) (by decide) zf_X7_73 (zM_0 hM) rfl rfl dX7_next_83 ?_
                refine zr_iload_4 hO dX7_next_86 ?_
                refine zg_ialdN hO (zM_50 hM) (by decide) (by omega) (by decide) dX7_next_88 ?_
                refine zr_aload_0 hO dX7_next_89 ?_
                refine zr_getfr (c := 7) hO (by decide) (by decide) zf_X7_73 (zM_0 hM) rfl rfl dX7_next_90 ?_
                refine zr_iload_3 hO dX7_next_93 ?_
                refine zV_pc (pc' := 94) rfl ?_
                refine zg_iald hO (zM_50 hM) (by decide) (by first | assumption | exact zin_m1 hIk (by decide) c41) dX7_next_94 ?_
                refine zr_icmp_ge (tgt := 101) hO dX7_next_95 (by decide) (fun c95 => ?_) (fun c95 => ?_)
                · refine zr_iinc_4 (v := 1) hO dX7_next_101 (by decide) (by decide) rfl ?_
                  refine zr_goto (tgt := 5) hO dX7_next_104 (by decide) ?_
                  rw [nI_1]
                  simp only [mB_next, if_pos c11, if_pos c22, if_pos c33, if_neg c41, if_neg c46, if_pos c65, if_neg c95] at ih
                  first | exact ih | contradiction
                · refine zr_iload_4 hO dX7_next_98 ?_
                  refine zr_istore_3 hO dX7_next_100 (by decide) rfl ?_
                  refine zr_iinc_4 (v := 1) hO dX7_next_101 (by decide) (by decide) rfl ?_
                  refine zr_goto (tgt := 5) hO dX7_next_104 (by decide) ?_
                  rw [nI_1]
                  simp only [mB_next, if_pos c11, if_pos c22, if_pos c33, if_neg c41, if_neg c46, if_pos c65, if_pos c95] at ih
                  first | exact ih | contradiction
              · refine zr_aload_0 hO dX7_next_68 ?_
                refine zr_iload_4 hO dX7_next_69 ?_
                refine zr_V1 (D := d) hO hRm hL (by omega) (by decide) (c := 7) (by decide) (zM_0 hM) rfl rfl (e_X7_lentNow (d := d - 1) htr hM (by omega) hW (vp_in_nI (by omega) (by decide))) zl_X7_150 zi_X7_lentNow zs_X7_lentNow zc_X7_lentNow zn_X7 zd_X7_lentNow (Nat.le_of_ble_eq_true rfl) dX7_next_71 (by omega) (by omega) ?_
                refine zr_aload_0 hO dX7_next_74 ?_
                refine zr_iload_3 hO dX7_next_75 ?_
                refine zr_V1 (D := d) hO hRm hL (by omega) (by decide) (c := 7) (by decide) (zM_0 hM) rfl rfl (e_X7_lentNow (d := d - 1) htr hM (by omega) hW (by first | assumption | exact zin_m1 hIk (by decide) c41)) zl_X7_150 zi_X7_lentNow zs_X7_lentNow zc_X7_lentNow zn_X7 zd_X7_lentNow (Nat.le_of_ble_eq_true rfl) dX7_next_76 (by omega) (by omega) ?_
                refine zr_icmp_ne (tgt := 101) hO dX7_next_79 (by decide) (fun c79 => ?_) (fun c79 => ?_)
                · refine zr_iinc_4 (v := 1) hO dX7_next_101 (by decide) (by decide) rfl ?_
                  refine zr_goto (tgt := 5) hO dX7_next_104 (by decide) ?_
                  rw [nI_1]
                  simp only [mB_next, if_pos c11, if_pos c22, if_pos c33, if_neg c41, if_neg c46, if_neg c65, if_neg c79] at ih
                  first | exact ih | contradiction
                · refine zr_aload_0 hO dX7_next_82 ?_
                  refine zr_getfr (c := 7) hO (by decide) (by decide) zf_X7_73 (zM_0 hM) rfl rfl dX7_next_83 ?_
                  refine zr_iload_4 hO dX7_next_86 ?_
                  refine zg_ialdN hO (zM_50 hM) (by decide) (by omega) (by decide) dX7_next_88 ?_
                  refine zr_aload_0 hO dX7_next_89 ?_
                  refine zr_getfr (c := 7) hO (by decide) (by decide) zf_X7_73 (zM_0 hM) rfl rfl dX7_next_90 ?_
                  refine zr_iload_3 hO dX7_next_93 ?_
                  refine zV_pc (pc' := 94) rfl ?_
                  refine zg_iald hO (zM_50 hM) (by decide) (by first | assumption | exact zin_m1 hIk (by decide) c41) dX7_next_94 ?_
                  refine zr_icmp_ge (tgt := 101) hO dX7_next_95 (by decide) (fun c95 => ?_) (fun c95 => ?_)
                  · refine zr_iinc_4 (v := 1) hO dX7_next_101 (by decide) (by decide) rfl ?_
                    refine zr_goto (tgt := 5) hO dX7_next_104 (by decide) ?_
                    rw [nI_1]
                    simp only [mB_next, if_pos c11, if_pos c22, if_pos c33, if_neg c41, if_neg c46, if_neg c65, if_pos c79, if_neg c95] at ih
                    first | exact ih | contradiction
                  · refine zr_iload_4 hO dX7_next_98 ?_
                    refine zr_istore_3 hO dX7_next_100 (by decide) rfl ?_
                    refine zr_iinc_4 (v := 1) hO dX7_next_101 (by decide) (by decide) rfl ?_
                    refine zr_goto (tgt := 5) hO dX7_next_104 (by decide) ?_
                    rw [nI_1]
                    simp only [mB_next, if_pos c11, if_pos c22, if_pos c33, if_neg c41, if_neg c46, if_neg c65, if_pos c79, if_pos c95] at ih
                    first | exact ih | contradiction
            · refine zr_aload_0 hO dX7_next_49 ?_
              refine zr_iload_4 hO dX7_next_50 ?_
              refine zr_V1 (D := d) hO hRm hL (by omega) (by decide) (c := 7) (by decide) (zM_0 hM) rfl rfl (e_X7_lentNow (d := d - 1) htr hM (by omega) hW (vp_in_nI (by omega) (by decide))) zl_X7_150 zi_X7_lentNow zs_X7_lentNow zc_X7_lentNow zn_X7 zd_X7_lentNow (Nat.le_of_ble_eq_true rfl) dX7_next_52 (by omega) (by omega) ?_
              refine zr_aload_0 hO dX7_next_55 ?_
              refine zr_iload_3 hO dX7_next_56 ?_
              refine zr_V1 (D := d) hO hRm hL (by omega) (by decide) (c := 7) (by decide) (zM_0 hM) rfl rfl (e_X7_lentNow (d := d - 1) htr hM (by omega) hW (by first | assumption | exact zin_m1 hIk (by decide) c41)) zl_X7_150 zi_X7_lentNow zs_X7_lentNow zc_X7_lentNow zn_X7 zd_X7_lentNow (Nat.le_of_ble_eq_true rfl) dX7_next_57 (by omega) (by omega) ?_
              refine zr_icmp_lt (tgt := 98) hO dX7_next_60 (by decide) (fun c60 => ?_) (fun c60 => ?_)
              · refine zr_iload_4 hO dX7_next_98 ?_
                refine zr_istore_3 hO dX7_next_100 (by decide) rfl ?_
                refine zr_iinc_4 (v := 1) hO dX7_next_101 (by decide) (by decide) rfl ?_
                refine zr_goto (tgt := 5) hO dX7_next_104 (by decide) ?_
                rw [nI_1]
                simp only [mB_next, if_pos c11, if_pos c22, if_pos c33, if_neg c41, if_pos c46, if_pos c60] at ih
                first | exact ih | contradiction
              · refine zr_iload_1 hO dX7_next_63 ?_
                refine zr_iconst (v := 5) hO dX7_next_64 (by decide) ?_
                refine zr_icmp_eq (tgt := 82) hO dX7_next_65 (by decide) (fun c65 => ?_) (fun c65 => ?_)
                · refine zr_aload_0 hO dX7_next_82 ?_
                  refine zr_getfr (c := 7) hO (by decide) (by decide) zf_X7_73 (zM_0 hM) rfl rfl dX7_next_83 ?_
                  refine zr_iload_4 hO dX7_next_86 ?_
                  refine zg_ialdN hO (zM_50 hM) (by decide) (by omega) (by decide) dX7_next_88 ?_
                  refine zr_aload_0 hO dX7_next_89 ?_
                  refine zr_getfr (c := 7) hO (by decide) (by decide) zf_X7_73 (zM_0 hM) rfl rfl dX7_next_90 ?_
                  refine zr_iload_3 hO dX7_next_93 ?_
                  refine zV_pc (pc' := 94) rfl ?_
                  refine zg_iald hO (zM_50 hM) (by decide) (by first | assumption | exact zin_m1 hIk (by decide) c41) dX7_next_94 ?_
                  refine zr_icmp_ge (tgt := 101) hO dX7_next_95 (by decide) (fun c95 => ?_) (fun c95 => ?_)
                  · refine zr_iinc_4 (v := 1) hO dX7_next_101 (by decide) (by decide) rfl ?_
                    refine zr_goto (tgt := 5) hO dX7_next_104 (by decide) ?_
                    rw [nI_1]
                    simp only [mB_next, if_pos c11, if_pos c22, if_pos c33, if_neg c41, if_pos c46, if_neg c60, if_pos c65, if_neg c95] at ih
                    first | exact ih | contradiction
                  · refine zr_iload_4 hO dX7_next_98 ?_
                    refine zr_istore_3 hO dX7_next_100 (by decide) rfl ?_
                    refine zr_iinc_4 (v := 1) hO dX7_next_101 (by decide) (by decide) rfl ?_
                    refine zr_goto (tgt := 5) hO dX7_next_104 (by decide) ?_
                    rw [nI_1]
                    simp only [mB_next, if_pos c11, if_pos c22, if_pos c33, if_neg c41, if_pos c46, if_neg c60, if_pos c65, if_pos c95] at ih
                    first | exact ih | contradiction
                · refine zr_aload_0 hO dX7_next_68 ?_
                  refine zr_iload_4 hO dX7_next_69 ?_
                  refine zr_V1 (D := d) hO hRm hL (by omega) (by decide) (c := 7) (by decide) (zM_0 hM) rfl rfl (e_X7_lentNow (d := d - 1) htr hM (by omega) hW (vp_in_nI (by omega) (by decide))) zl_X7_150 zi_X7_lentNow zs_X7_lentNow zc_X7_lentNow zn_X7 zd_X7_lentNow (Nat.le_of_ble_eq_true rfl) dX7_next_71 (by omega) (by omega) ?_
                  refine zr_aload_0 hO dX7_next_74 ?_
                  refine zr_iload_3 hO dX7_next_75 ?_
                  refine zr_V1 (D := d) hO hRm hL (by omega) (by decide) (c := 7) (by decide) (zM_0 hM) rfl rfl (e_X7_lentNow (d := d - 1) htr hM (by omega) hW (by first | assumption | exact zin_m1 hIk (by decide) c41)) zl_X7_150 zi_X7_lentNow zs_X7_lentNow zc_X7_lentNow zn_X7 zd_X7_lentNow (Nat.le_of_ble_eq_true rfl) dX7_next_76 (by omega) (by omega) ?_
                  refine zr_icmp_ne (tgt := 101) hO dX7_next_79 (by decide) (fun c79 => ?_) (fun c79 => ?_)
                  · refine zr_iinc_4 (v := 1) hO dX7_next_101 (by decide) (by decide) rfl ?_
                    refine zr_goto (tgt := 5) hO dX7_next_104 (by decide) ?_
                    rw [nI_1]
                    simp only [mB_next, if_pos c11, if_pos c22, if_pos c33, if_neg c41, if_pos c46, if_neg c60, if_neg c65, if_neg c79] at ih
                    first | exact ih | contradiction
                  · refine zr_aload_0 hO dX7_next_82 ?_
                    refine zr_getfr (c := 7) hO (by decide) (by decide) zf_X7_73 (zM_0 hM) rfl rfl dX7_next_83 ?_
                    refine zr_iload_4 hO dX7_next_86 ?_
                    refine zg_ialdN hO (zM_50 hM) (by decide) (by omega) (by decide) dX7_next_88 ?_
                    refine zr_aload_0 hO dX7_next_89 ?_
                    refine zr_getfr (c := 7) hO (by decide) (by decide) zf_X7_73 (zM_0 hM) rfl rfl dX7_next_90 ?_
                    refine zr_iload_3 hO dX7_next_93 ?_
                    refine zV_pc (pc' := 94) rfl ?_
                    refine zg_iald hO (zM_50 hM) (by decide) (by first | assumption | exact zin_m1 hIk (by decide) c41) dX7_next_94 ?_
                    refine zr_icmp_ge (tgt := 101) hO dX7_next_95 (by decide) (fun c95 => ?_) (fun c95 => ?_)
                    · refine zr_iinc_4 (v := 1) hO dX7_next_101 (by decide) (by decide) rfl ?_
                      refine zr_goto (tgt := 5) hO dX7_next_104 (by decide) ?_
                      rw [nI_1]
                      simp only [mB_next, if_pos c11, if_pos c22, if_pos c33, if_neg c41, if_pos c46, if_neg c60, if_neg c65, if_pos c79, if_neg c95] at ih
                      first | exact ih | contradiction
                    · refine zr_iload_4 hO dX7_next_98 ?_
                      refine zr_istore_3 hO dX7_next_100 (by decide) rfl ?_
                      refine zr_iinc_4 (v := 1) hO dX7_next_101 (by decide) (by decide) rfl ?_
                      refine zr_goto (tgt := 5) hO dX7_next_104 (by decide) ?_
                      rw [nI_1]
                      simp only [mB_next, if_pos c11, if_pos c22, if_pos c33, if_neg c41, if_pos c46, if_neg c60, if_neg c65, if_pos c79, if_pos c95] at ih
                      first | exact ih | contradiction
        · refine zr_goto (tgt := 101) hO dX7_next_36 (by decide) ?_
          refine zr_iinc_4 (v := 1) hO dX7_next_101 (by decide) (by decide) rfl ?_
          refine zr_goto (tgt := 5) hO dX7_next_104 (by decide) ?_
          rw [nI_1]
          simp only [mB_next, if_pos c11, if_pos c22, if_neg c33] at ih
          first | exact ih | contradiction
  · intro hIk
    refine zr_iload_4 hO dX7_next_5 ?_
    refine zr_aload_0 hO dX7_next_7 ?_
    refine zg_getfi0 (c := 7) hO (zM_0 hM) (by decide) (by decide) (by decide) zf_X7_110 rfl dX7_next_8 ?_
    refine zr_icmp_ge (tgt := 107) hO dX7_next_11 (by decide) (fun c11 => ?_) (fun c11 => ?_)
    · refine zr_iload_3 hO dX7_next_107 ?_
      exact zr_ireturn hO hE dX7_next_108 (zpl_i (by first | ((simp only [mF_next, if_neg c11]) <;> rfl) | contradiction) rfl)
    · exact absurd c11 (zlt_F (zmW_n hW))
set_option maxRecDepth 100000 in
set_option maxHeartbeats 4000000 in
theorem e_X7_free {l : Launch} {G : zGm} {d n o : Nat} {ly : zLy} {τ : zTu} {σ M : zSg} {q : Int32} (htr : l.stackTraces = false) (hM : zM ly o) (hd : 3 ≤ d) (hW : zmW M) (hq : vp_in q 6) : zEv l G d 0 0 (yX7_free, cX7_free, 3, none) [.ref o, .int q] (fun x => n ≤ x) ly τ (zwr σ o 103 M) (zPl n ly τ (zwr σ o 103 (mF_free M q)) none) := by
  refine zEv_of (ls := [some (.ref o), some (.int q), none, none, none, none, none, none, none]) htr (by decide) (Nat.le_of_ble_eq_true rfl) rfl (fun X hO hE hN hRm hL hNm => ?_)
  have hO : zOk G X RX7 cX7_free 3 := hO
  have hW1 : zmW (zup M 101 (ix q) (-1)) := zmW_up hW (f := 101) zr_m1
  refine zr_aload_0 hO dX7_free_0 ?_
  refine zr_getfr (c := 7) hO (by decide) (by decide) zf_X7_88 (zM_0 hM) rfl rfl dX7_free_1 ?_
  refine zr_iload_1 hO dX7_free_4 ?_
  refine zr_iconst (v := (-1)) hO dX7_free_5 (by decide) ?_
  refine zg_iast hO (zM_101 hM) (by decide) (by first | assumption | exact zin_m1 (zr_next hW1 _ _) (by decide) c16) dX7_free_6 ?_
  refine zr_aload_0 hO dX7_free_7 ?_
  refine zr_iconst (v := 4) hO dX7_free_8 (by decide) ?_
  refine zV_pc (pc' := 9) rfl ?_
  refine zr_iload_1 hO dX7_free_9 ?_
  refine zr_V2 (D := d) hO hRm hL (by omega) (by decide) (c := 7) (by decide) (zM_0 hM) rfl rfl (e_X7_next (d := d - 1) htr hM (by omega) hW1) zl_X7_153 zi_X7_next zs_X7_next zc_X7_next zn_X7 zd_X7_next (Nat.le_of_ble_eq_true rfl) dX7_free_10 (by omega) (by omega) ?_
  refine zr_istore_2 hO dX7_free_13 (by decide) rfl ?_
  refine zr_iload_2 hO dX7_free_14 ?_
  refine zr_iconst (v := (-1)) hO dX7_free_15 (by decide) ?_
  refine zr_icmp_ne (tgt := 20) hO dX7_free_16 (by decide) (fun c16 => ?_) (fun c16 => ?_)
  · refine zr_aload_0 hO dX7_free_20 ?_
    refine zr_getfr (c := 7) hO (by decide) (by decide) zf_X7_88 (zM_0 hM) rfl rfl dX7_free_21 ?_
    refine zr_iload_1 hO dX7_free_24 ?_
    refine zr_iload_2 hO dX7_free_25 ?_
    refine zg_iast hO (zM_101 hM) (by decide) (by first | assumption | exact zin_m1 (zr_next hW1 _ _) (by decide) c16) dX7_free_26 ?_
    refine zr_aload_0 hO dX7_free_27 ?_
    refine zr_getfr (c := 7) hO (by decide) (by decide) zf_X7_49 (zM_0 hM) rfl rfl dX7_free_28 ?_
    refine zV_pc (pc' := 31) rfl ?_
    refine zr_iload_2 hO dX7_free_31 ?_
    refine zr_dup2 hO dX7_free_32 rfl rfl ?_
    refine zg_iald hO (zM_42 hM) (by decide) (by first | assumption | exact zin_m1 (zr_next hW1 _ _) (by decide) c16) dX7_free_33 ?_
    refine zr_iconst (v := 1) hO dX7_free_34 (by decide) ?_
    refine zr_iadd hO dX7_free_35 ?_
    refine zg_iast hO (zM_42 hM) (by decide) (by first | assumption | exact zin_m1 (zr_next hW1 _ _) (by decide) c16) dX7_free_36 ?_
    refine zr_aload_0 hO dX7_free_37 ?_
    refine zV_pc (pc' := 38) rfl ?_
    refine zr_iload_2 hO dX7_free_38 ?_
    refine zr_V1 (D := d) hO hRm hL (by omega) (by decide) (c := 7) (by decide) (zM_0 hM) rfl rfl (e_X7_wake (d := d - 1) htr hM (by omega) (zmW_up (zmW_up hW1 (f := 101) (zr_next hW1 _ _)) (f := 42) (zr_any _)) (zin_m1 (zr_next hW1 _ _) (by decide) c16)) zl_X7_156 zi_X7_wake zs_X7_wake zc_X7_wake zn_X7 zd_X7_wake (Nat.le_of_ble_eq_true rfl) dX7_free_39 (by omega) (by omega) ?_
    exact zr_return hO hE dX7_free_42 (zpl_v (by first | ((simp only [mF_free, if_neg c16]) <;> rfl) | contradiction))
  · exact zr_return hO hE dX7_free_19 (zpl_v (by first | ((simp only [mF_free, if_pos c16]) <;> rfl) | contradiction))
set_option maxRecDepth 100000 in
set_option maxHeartbeats 4000000 in
theorem e_X7_signalNow {l : Launch} {G : zGm} {d n o : Nat} {ly : zLy} {τ : zTu} {σ M : zSg} {q : Int32} (htr : l.stackTraces = false) (hM : zM ly o) (hd : 3 ≤ d) (hW : zmW M) (hq : vp_in q 6) : zEv l G d 0 0 (yX7_signalNow, cX7_signalNow, 3, none) [.ref o, .int q] (fun x => n ≤ x) ly τ (zwr σ o 103 M) (zPl n ly τ (zwr σ o 103 (mF_signal M q)) none) := by
  refine zEv_of (ls := [some (.ref o), some (.int q), none, none, none, none, none, none, none]) htr (by decide) (Nat.le_of_ble_eq_true rfl) rfl (fun X hO hE hN hRm hL hNm => ?_)
  have hO : zOk G X RX7 cX7_signalNow 3 := hO
  refine zr_aload_0 hO dX7_signalNow_0 ?_
  refine zr_iconst (v := 5) hO dX7_signalNow_1 (by decide) ?_
  refine zr_iload_1 hO dX7_signalNow_2 ?_
  refine zr_V2 (D := d) hO hRm hL (by omega) (by decide) (c := 7) (by decide) (zM_0 hM) rfl rfl (e_X7_next (d := d - 1) htr hM (by omega) hW) zl_X7_153 zi_X7_next zs_X7_next zc_X7_next zn_X7 zd_X7_next (Nat.le_of_ble_eq_true rfl) dX7_signalNow_3 (by omega) (by omega) ?_
  refine zr_istore_2 hO dX7_signalNow_6 (by decide) rfl ?_
  refine zr_iload_2 hO dX7_signalNow_7 ?_
  refine zr_iconst (v := (-1)) hO dX7_signalNow_8 (by decide) ?_
  refine zV_pc (pc' := 9) rfl ?_
  refine zr_icmp_ne (tgt := 32) hO dX7_signalNow_9 (by decide) (fun c9 => ?_) (fun c9 => ?_)
  · refine zr_aload_0 hO dX7_signalNow_32 ?_
    refine zr_getfr (c := 7) hO (by decide) (by decide) zf_X7_49 (zM_0 hM) rfl rfl dX7_signalNow_33 ?_
    refine zr_iload_2 hO dX7_signalNow_36 ?_
    refine zr_dup2 hO dX7_signalNow_37 rfl rfl ?_
    refine zg_iald hO (zM_42 hM) (by decide) (by first | assumption | exact zin_m1 (zr_next hW _ _) (by decide) c9) dX7_signalNow_38 ?_
    refine zr_iconst (v := 1) hO dX7_signalNow_39 (by decide) ?_
    refine zr_iadd hO dX7_signalNow_40 ?_
    refine zV_pc (pc' := 41) rfl ?_
    refine zg_iast hO (zM_42 hM) (by decide) (by first | assumption | exact zin_m1 (zr_next hW _ _) (by decide) c9) dX7_signalNow_41 ?_
    refine zr_aload_0 hO dX7_signalNow_42 ?_
    refine zr_iload_2 hO dX7_signalNow_43 ?_
    refine zr_V1 (D := d) hO hRm hL (by omega) (by decide) (c := 7) (by decide) (zM_0 hM) rfl rfl (e_X7_wake (d := d - 1) htr hM (by omega) (zmW_up hW (f := 42) (zr_any _)) (zin_m1 (zr_next hW _ _) (by decide) c9)) zl_X7_156 zi_X7_wake zs_X7_wake zc_X7_wake zn_X7 zd_X7_wake (Nat.le_of_ble_eq_true rfl) dX7_signalNow_44 (by omega) (by omega) ?_
    exact zr_return hO hE dX7_signalNow_47 (zpl_v (by first | ((simp only [mF_signal, if_neg c9]) <;> rfl) | contradiction))
  · refine zr_aload_0 hO dX7_signalNow_12 ?_
    refine zr_getfr (c := 7) hO (by decide) (by decide) zf_X7_91 (zM_0 hM) rfl rfl dX7_signalNow_13 ?_
    refine zr_iload_1 hO dX7_signalNow_16 ?_
    refine zr_bipush (v := 99) hO dX7_signalNow_17 (by decide) ?_
    refine zr_aload_0 hO dX7_signalNow_19 ?_
    refine zr_getfr (c := 7) hO (by decide) (by decide) zf_X7_91 (zM_0 hM) rfl rfl dX7_signalNow_20 ?_
    refine zr_iload_1 hO dX7_signalNow_23 ?_
    refine zV_pc (pc' := 24) rfl ?_
    refine zg_iald hO (zM_102 hM) (by decide) (by first | assumption | exact zin_m1 (zr_next hW _ _) (by decide) c9) dX7_signalNow_24 ?_
    refine zr_iconst (v := 1) hO dX7_signalNow_25 (by decide) ?_
    refine zr_iadd hO dX7_signalNow_26 ?_
    refine zr_mmin hO (by omega) hRm zl_X7_134 dX7_signalNow_27 (Nat.le_of_ble_eq_true rfl) ?_
    refine zg_iast hO (zM_102 hM) (by decide) (by first | assumption | exact zin_m1 (zr_next hW _ _) (by decide) c9) dX7_signalNow_30 ?_
    exact zr_return hO hE dX7_signalNow_31 (zpl_v (by first | ((simp only [mF_signal, if_pos c9]) <;> rfl) | contradiction))
set_option maxRecDepth 100000 in
set_option maxHeartbeats 4000000 in
theorem e_X7_finish {l : Launch} {G : zGm} {d n o : Nat} {ly : zLy} {τ : zTu} {σ M : zSg} {t : Int32} (htr : l.stackTraces = false) (hM : zM ly o) (hd : 4 ≤ d) (hW : zmW M) (ht : vp_in t 16) : zEv l G d 0 0 (yX7_finish, cX7_finish, 3, none) [.ref o, .int t] (fun x => n ≤ x) ly τ (zwr σ o 103 M) (zPl n ly τ (zwr σ o 103 (mF_finish M t)) none) := by
  refine zEv_of (ls := [some (.ref o), some (.int t), none, none, none, none, none, none, none]) htr (by decide) (Nat.le_of_ble_eq_true rfl) rfl (fun X hO hE hN hRm hL hNm => ?_)
  have hO : zOk G X RX7 cX7_finish 3 := hO
  refine zr_aload_0 hO dX7_finish_0 ?_
  refine zr_iload_1 hO dX7_finish_1 ?_
  refine zr_V1 (D := d) hO hRm hL (by omega) (by decide) (c := 7) (by decide) (zM_0 hM) rfl rfl (e_X7_leave (d := d - 1) htr hM (by omega) hW) zl_X7_159 zi_X7_leave zs_X7_leave zc_X7_leave zn_X7 zd_X7_leave (Nat.le_of_ble_eq_true rfl) dX7_finish_2 (by omega) (by omega) ?_
  refine zr_aload_0 hO dX7_finish_5 ?_
  refine zr_getfr (c := 7) hO (by decide) (by decide) zf_X7_46 (zM_0 hM) rfl rfl dX7_finish_6 ?_
  refine zr_iload_1 hO dX7_finish_9 ?_
  refine zr_bipush (v := 6) hO dX7_finish_10 (by decide) ?_
  refine zV_pc (pc' := 12) rfl ?_
  refine zg_iast hO (zM_41 hM) (by decide) (by first | assumption | exact (by decide : vp_in (4 : Int32) 5)) dX7_finish_12 ?_
  refine zr_aload_0 hO dX7_finish_13 ?_
  refine zr_getfr (c := 7) hO (by decide) (by decide) zf_X7_49 (zM_0 hM) rfl rfl dX7_finish_14 ?_
  refine zr_iload_1 hO dX7_finish_17 ?_
  refine zr_aload_0 hO dX7_finish_18 ?_
  refine zr_getfr (c := 7) hO (by decide) (by decide) zf_X7_35 (zM_0 hM) rfl rfl dX7_finish_19 ?_
  refine zr_iload_1 hO dX7_finish_22 ?_
  refine zV_pc (pc' := 23) rfl ?_
  refine zg_iald hO (zM_6 hM) (by decide) (by first | assumption | exact (by decide : vp_in (4 : Int32) 5)) dX7_finish_23 ?_
  refine zg_iast hO (zM_42 hM) (by decide) (by first | assumption | exact (by decide : vp_in (4 : Int32) 5)) dX7_finish_24 ?_
  refine zr_aload_0 hO dX7_finish_25 ?_
  refine zr_getfr (c := 7) hO (by decide) (by decide) zf_X7_76 (zM_0 hM) rfl rfl dX7_finish_26 ?_
  refine zr_iload_1 hO dX7_finish_29 ?_
  refine zr_aaldIx hO (zM_51 hM) (by first | assumption | exact (by decide : vp_in (4 : Int32) 5)) dX7_finish_30 (fun hx30_0 => ?_)
  refine zr_iconst (v := 4) hO dX7_finish_31 (by decide) ?_
  refine zV_pc (pc' := 32) rfl ?_
  refine zr_aload_0 hO dX7_finish_32 ?_
  refine zg_getfi0 (c := 7) hO (zM_0 hM) (by decide) (by decide) (by decide) zf_X7_95 rfl dX7_finish_33 ?_
  refine zg_iast hO (zM_cnt hM hx30_0) (by have := hx30_0; omega) (zin_i ⟨by decide, by decide⟩) dX7_finish_36 ?_
  refine zr_iconst (v := 0) hO dX7_finish_37 (by decide) ?_
  refine zr_istore_2 hO dX7_finish_38 (by decide) rfl ?_
  refine z_for (P := fun k s => zV G X 3 0 0 (fun x => n ≤ x) ly τ (zwr σ o 103 s) 39 [some (.ref o), some (.int t), some (.int (nI k)), none, none, none, none, none, none] []) 6 (mB_finish t) (fun _ s => zk M s) (zup (zup (zup (mF_leave M t) 41 (ix t) 6) 42 (ix t) ((zup (mF_leave M t) 41 (ix t) 6) 6 (ix t))) (52 + ix t) (ix 4) ((zup (zup (mF_leave M t) 41 (ix t) 6) 42 (ix t) ((zup (mF_leave M t) 41 (ix t) 6) 6 (ix t))) 0 1)) (zk_cnt (zk_up (zk_up (zk_leave (zk_r hW) t) (f := 41) (by rfl) zst_6) (f := 42) (by rfl) (zr_any _)) (zin_lt ht) _ _) (fun i s _ h => by unfold mB_finish; split <;> first | exact h | exact zk_free h _) ?_ ?_
  · intro k s hk hIk ih
    refine zr_iload_2 hO dX7_finish_39 ?_
    refine zr_bipush (v := 6) hO dX7_finish_40 (by decide) ?_
    refine zr_icmp_ge (tgt := 66) hO dX7_finish_42 (by decide) (fun c42 => ?_) (fun c42 => ?_)
    · exact absurd (zlt_T (x := 6) (by decide) hk) c42
    · refine zr_aload_0 hO dX7_finish_45 ?_
      refine zr_getfr (c := 7) hO (by decide) (by decide) zf_X7_88 (zM_0 hM) rfl rfl dX7_finish_46 ?_
      refine zr_iload_2 hO dX7_finish_49 ?_
      refine zg_ialdN hO (zM_101 hM) (by decide) (by omega) (by decide) dX7_finish_50 ?_
      refine zr_iload_1 hO dX7_finish_51 ?_
      refine zr_icmp_ne (tgt := 60) hO dX7_finish_52 (by decide) (fun c52 => ?_) (fun c52 => ?_)
      · refine zr_iinc_2 (v := 1) hO dX7_finish_60 (by decide) (by decide) rfl ?_
        refine zr_goto (tgt := 39) hO dX7_finish_63 (by decide) ?_
        rw [nI_1]
        simp only [mB_finish, if_pos c42, if_neg c52] at ih
        first | exact ih | contradiction
      · refine zr_aload_0 hO dX7_finish_55 ?_
        refine zr_iload_2 hO dX7_finish_56 ?_
        refine zr_V1 (D := d) hO hRm hL (by omega) (by decide) (c := 7) (by decide) (zM_0 hM) rfl rfl (e_X7_free (d := d - 1) htr hM (by omega) hIk.1 (vp_in_nI hk (by decide))) zl_X7_162 zi_X7_free zs_X7_free zc_X7_free zn_X7 zd_X7_free (Nat.le_of_ble_eq_true rfl) dX7_finish_57 (by omega) (by omega) ?_
        refine zr_iinc_2 (v := 1) hO dX7_finish_60 (by decide) (by decide) rfl ?_
        refine zr_goto (tgt := 39) hO dX7_finish_63 (by decide) ?_
        rw [nI_1]
        simp only [mB_finish, if_pos c42, if_pos c52] at ih
        first | exact ih | contradiction
  · intro hIk
    refine zr_iload_2 hO dX7_finish_39 ?_
    refine zr_bipush (v := 6) hO dX7_finish_40 (by decide) ?_
    refine zr_icmp_ge (tgt := 66) hO dX7_finish_42 (by decide) (fun c42 => ?_) (fun c42 => ?_)
    · exact zr_return hO hE dX7_finish_66 (zpl_v (by first | ((simp only [mF_finish, if_neg c42]) <;> rfl) | contradiction))
    · exact absurd c42 (zlt_F (x := 6) (by decide))
set_option maxRecDepth 100000 in
set_option maxHeartbeats 4000000 in
theorem e_X7_stay {l : Launch} {G : zGm} {d n o : Nat} {ly : zLy} {τ : zTu} {σ M : zSg} {t its place : Int32} (htr : l.stackTraces = false) (hM : zM ly o) (hd : 1 ≤ d) (hW : zmW M) (ht : vp_in t 16) : zEv l G d 0 0 (yX7_stay, cX7_stay, 4, none) [.ref o, .int t, .int its, .int place] (fun x => n ≤ x) ly τ (zwr σ o 103 M) (zPl n ly τ (zwr σ o 103 (mF_stay M t its place)) none) := by
  refine zEv_of (ls := [some (.ref o), some (.int t), some (.int its), some (.int place), none, none, none, none, none]) htr (by decide) (Nat.le_of_ble_eq_true rfl) rfl (fun X hO hE hN hRm hL hNm => ?_)
  have hO : zOk G X RX7 cX7_stay 4 := hO
  refine zr_aload_0 hO dX7_stay_0 ?_
  refine zr_iload_1 hO dX7_stay_1 ?_
  refine zr_V1 (D := d) hO hRm hL (by omega) (by decide) (c := 7) (by decide) (zM_0 hM) rfl rfl (e_X7_leave (d := d - 1) htr hM (by omega) hW) zl_X7_159 zi_X7_leave zs_X7_leave zc_X7_leave zn_X7 zd_X7_leave (Nat.le_of_ble_eq_true rfl) dX7_stay_2 (by omega) (by omega) ?_
  refine zr_aload_0 hO dX7_stay_5 ?_
  refine zr_getfr (c := 7) hO (by decide) (by decide) zf_X7_46 (zM_0 hM) rfl rfl dX7_stay_6 ?_
  refine zr_iload_1 hO dX7_stay_9 ?_
  refine zr_iload_2 hO dX7_stay_10 ?_
  refine zV_pc (pc' := 11) rfl ?_
  refine zg_iast hO (zM_41 hM) (by decide) (by first | assumption) dX7_stay_11 ?_
  refine zr_aload_0 hO dX7_stay_12 ?_
  refine zr_getfr (c := 7) hO (by decide) (by decide) zf_X7_70 (zM_0 hM) rfl rfl dX7_stay_13 ?_
  refine zr_iload_1 hO dX7_stay_16 ?_
  refine zr_iload_3 hO dX7_stay_17 ?_
  refine zg_iast hO (zM_49 hM) (by decide) (by first | assumption) dX7_stay_18 ?_
  refine zr_aload_0 hO dX7_stay_19 ?_
  refine zV_pc (pc' := 20) rfl ?_
  refine zr_getfr (c := 7) hO (by decide) (by decide) zf_X7_73 (zM_0 hM) rfl rfl dX7_stay_20 ?_
  refine zr_iload_1 hO dX7_stay_23 ?_
  refine zr_aload_0 hO dX7_stay_24 ?_
  refine zg_getfi0 (c := 7) hO (zM_0 hM) (by decide) (by decide) (by decide) zf_X7_107 rfl dX7_stay_25 ?_
  refine zg_iast hO (zM_50 hM) (by decide) (by first | assumption) dX7_stay_28 ?_
  refine zr_aload_0 hO dX7_stay_29 ?_
  refine zr_dup hO dX7_stay_30 rfl ?_
  refine zV_pc (pc' := 31) rfl ?_
  refine zg_getfi0 (c := 7) hO (zM_0 hM) (by decide) (by decide) (by decide) zf_X7_107 rfl dX7_stay_31 ?_
  refine zr_iconst (v := 1) hO dX7_stay_34 (by decide) ?_
  refine zr_iadd hO dX7_stay_35 ?_
  refine zg_putfi0 (c := 7) hO (zM_0 hM) (by decide) (by decide) (by decide) zf_X7_107 rfl rfl dX7_stay_36 ?_
  exact zr_return hO hE dX7_stay_39 (zpl_v (by first | ((simp only [mF_stay]) <;> rfl) | contradiction))
set_option maxRecDepth 100000 in
set_option maxHeartbeats 4000000 in
theorem e_X7_expire {l : Launch} {G : zGm} {d n o : Nat} {ly : zLy} {τ : zTu} {σ M : zSg}  (htr : l.stackTraces = false) (hM : zM ly o) (hd : 1 ≤ d) (hW : zmW M) : zEv l G d 0 0 (yX7_expire, cX7_expire, 3, none) [.ref o] (fun x => n ≤ x) ly τ (zwr σ o 103 M) (zPl n ly τ (zwr σ o 103 (mF_expire M)) none) := by
  refine zEv_of (ls := [some (.ref o), none, none, none, none, none, none, none, none]) htr (by decide) (Nat.le_of_ble_eq_true rfl) rfl (fun X hO hE hN hRm hL hNm => ?_)
  have hO : zOk G X RX7 cX7_expire 3 := hO
  refine zr_iconst (v := 0) hO dX7_expire_0 (by decide) ?_
  refine zr_istore_1 hO dX7_expire_1 (by decide) rfl ?_
  refine z_for (P := fun k s => zV G X 3 0 0 (fun x => n ≤ x) ly τ (zwr σ o 103 s) 2 [some (.ref o), some (.int (nI k)), none, none, none, none, none, none, none] []) (ix (M 0 6)) mB_expire (fun _ s => zk M s) M (zk_r hW) (fun i s _ h => zk_expire1 h i) ?_ ?_
  · intro k s hk hIk ih
    have hk3 : k < 3 := by have := zmW_p3 hW; omega
    refine zr_iload_1 hO dX7_expire_2 ?_
    refine zr_aload_0 hO dX7_expire_3 ?_
    refine zg_getfi0 (c := 7) hO (zM_0 hM) (by decide) (by decide) (by decide) zf_X7_16 rfl dX7_expire_4 ?_
    refine zr_icmp_ge (tgt := 111) hO dX7_expire_7 (by decide) (fun c7 => ?_) (fun c7 => ?_)
    · exact absurd (by rw [hIk.2 0 6 rfl]; exact zlt_T (zmW_p hW) hk) c7
    · refine zr_aload_0 hO dX7_expire_10 ?_
      refine zr_getfr (c := 7) hO (by decide) (by decide) zf_X7_79 (zM_0 hM) rfl rfl dX7_expire_11 ?_
      refine zr_iload_1 hO dX7_expire_14 ?_
      refine zg_ialdN hO (zM_68 hM) (by decide) (by omega) (by decide) dX7_expire_15 ?_
      refine zr_istore_2 hO dX7_expire_16 (by decide) rfl ?_
      refine zr_iload_2 hO dX7_expire_17 ?_
      refine zr_iconst (v := (-1)) hO dX7_expire_18 (by decide) ?_
      refine zV_pc (pc' := 19) rfl ?_
      refine zr_icmp_eq (tgt := 105) hO dX7_expire_19 (by decide) (fun c19 => ?_) (fun c19 => ?_)
      · refine zr_iinc_1 (v := 1) hO dX7_expire_105 (by decide) (by decide) rfl ?_
        refine zr_goto (tgt := 2) hO dX7_expire_108 (by decide) ?_
        refine zV_d2 ?_
        rw [nI_1]
        simp only [mB_expire, if_pos c7, if_pos c19] at ih
        first | exact ih | contradiction
      · refine zr_aload_0 hO dX7_expire_22 ?_
        refine zg_getfi0 (c := 7) hO (zM_0 hM) (by decide) (by decide) (by decide) zf_X7_98 rfl dX7_expire_23 ?_
        refine zr_iconst (v := 2) hO dX7_expire_26 (by decide) ?_
        refine zr_icmp_eq (tgt := 105) hO dX7_expire_27 (by decide) (fun c27 => ?_) (fun c27 => ?_)
        · refine zr_iinc_1 (v := 1) hO dX7_expire_105 (by decide) (by decide) rfl ?_
          refine zr_goto (tgt := 2) hO dX7_expire_108 (by decide) ?_
          refine zV_d2 ?_
          rw [nI_1]
          simp only [mB_expire, if_pos c7, if_neg c19, if_pos c27] at ih
          first | exact ih | contradiction
        · refine zr_aload_0 hO dX7_expire_30 ?_
          refine zr_getfr (c := 7) hO (by decide) (by decide) zf_X7_82 (zM_0 hM) rfl rfl dX7_expire_31 ?_
          refine zr_iload_1 hO dX7_expire_34 ?_
          refine zg_ialdN hO (zM_69 hM) (by decide) (by omega) (by decide) dX7_expire_35 ?_
          refine zr_aload_0 hO dX7_expire_36 ?_
          refine zg_getfi0 (c := 7) hO (zM_0 hM) (by decide) (by decide) (by decide) zf_X7_98 rfl dX7_expire_37 ?_
          refine zr_if_ne (tgt := 50) hO dX7_expire_40 (by decide) (fun c40 => ?_) (fun c40 => ?_)
          · refine zr_aload_0 hO dX7_expire_50 ?_
            refine zg_getfi0 (c := 7) hO (zM_0 hM) (by decide) (by decide) (by decide) zf_X7_7 rfl dX7_expire_51 ?_
            refine zr_aload_0 hO dX7_expire_54 ?_
            refine zr_getfr (c := 7) hO (by decide) (by decide) zf_X7_61 (zM_0 hM) rfl rfl dX7_expire_55 ?_
            refine zr_iload_2 hO dX7_expire_58 ?_
            refine zg_iald hO (zM_46 hM) (by decide) (by first | assumption | exact zin_m1 (b := 15) (hIk.1 68 _) (by decide) c19) dX7_expire_59 ?_
            refine zr_ishl hO dX7_expire_60 ?_
            refine zV_pc (pc' := 61) rfl ?_
            refine zr_icmp_ge (tgt := 67) hO dX7_expire_61 (by decide) (fun c61 => ?_) (fun c61 => ?_)
            · refine zr_aload_0 hO dX7_expire_67 ?_
              refine zg_getfi0 (c := 7) hO (zM_0 hM) (by decide) (by decide) (by decide) zf_X7_98 rfl dX7_expire_68 ?_
              refine zr_iconst (v := 1) hO dX7_expire_71 (by decide) ?_
              refine zr_icmp_ne (tgt := 93) hO dX7_expire_72 (by decide) (fun c72 => ?_) (fun c72 => ?_)
              · refine zr_aload_0 hO dX7_expire_93 ?_
                refine zr_getfr (c := 7) hO (by decide) (by decide) zf_X7_79 (zM_0 hM) rfl rfl dX7_expire_94 ?_
                refine zr_iload_1 hO dX7_expire_97 ?_
                refine zr_iconst (v := (-1)) hO dX7_expire_98 (by decide) ?_
                refine zg_iastN hO (zM_68 hM) (by decide) (by omega) (by decide) dX7_expire_99 ?_
                refine zr_aload_0 hO dX7_expire_100 ?_
                refine zr_iload_2 hO dX7_expire_101 ?_
                refine zV_pc (pc' := 102) rfl ?_
                refine zr_V1 (D := d) hO hRm hL (by omega) (by decide) (c := 7) (by decide) (zM_0 hM) rfl rfl (e_X7_ready (d := d - 1) htr hM (by omega) (zin_m1 (b := 15) (hIk.1 68 _) (by decide) c19)) zl_X7_146 zi_X7_ready zs_X7_ready zc_X7_ready zn_X7 zd_X7_ready (Nat.le_of_ble_eq_true rfl) dX7_expire_102 (by omega) (by omega) ?_
                refine zr_iinc_1 (v := 1) hO dX7_expire_105 (by decide) (by decide) rfl ?_
                refine zr_goto (tgt := 2) hO dX7_expire_108 (by decide) ?_
                refine zV_d2 ?_
                rw [nI_1]
                simp only [mB_expire, if_pos c7, if_neg c19, if_neg c27, if_neg c40, if_neg c61, if_neg c72] at ih
                first | exact ih | contradiction
              · refine zr_aload_0 hO dX7_expire_75 ?_
                refine zr_getfr (c := 7) hO (by decide) (by decide) zf_X7_61 (zM_0 hM) rfl rfl dX7_expire_76 ?_
                refine zr_iload_2 hO dX7_expire_79 ?_
                refine zr_iconst (v := 3) hO dX7_expire_80 (by decide) ?_
                refine zr_aload_0 hO dX7_expire_81 ?_
                refine zr_getfr (c := 7) hO (by decide) (by decide) zf_X7_61 (zM_0 hM) rfl rfl dX7_expire_82 ?_
                refine zr_iload_2 hO dX7_expire_85 ?_
                refine zV_pc (pc' := 86) rfl ?_
                refine zg_iald hO (zM_46 hM) (by decide) (by first | assumption | exact zin_m1 (b := 15) (hIk.1 68 _) (by decide) c19) dX7_expire_86 ?_
                refine zr_iconst (v := 1) hO dX7_expire_87 (by decide) ?_
                refine zr_iadd hO dX7_expire_88 ?_
                refine zr_mmin hO (by omega) hRm zl_X7_134 dX7_expire_89 (Nat.le_of_ble_eq_true rfl) ?_
                refine zg_iast hO (zM_46 hM) (by decide) (by first | assumption | exact zin_m1 (b := 15) (hIk.1 68 _) (by decide) c19) dX7_expire_92 ?_
                refine zr_aload_0 hO dX7_expire_93 ?_
                refine zr_getfr (c := 7) hO (by decide) (by decide) zf_X7_79 (zM_0 hM) rfl rfl dX7_expire_94 ?_
                refine zV_pc (pc' := 97) rfl ?_
                refine zr_iload_1 hO dX7_expire_97 ?_
                refine zr_iconst (v := (-1)) hO dX7_expire_98 (by decide) ?_
                refine zg_iastN hO (zM_68 hM) (by decide) (by omega) (by decide) dX7_expire_99 ?_
                refine zr_aload_0 hO dX7_expire_100 ?_
                refine zr_iload_2 hO dX7_expire_101 ?_
                refine zr_V1 (D := d) hO hRm hL (by omega) (by decide) (c := 7) (by decide) (zM_0 hM) rfl rfl (e_X7_ready (d := d - 1) htr hM (by omega) (zin_m1 (b := 15) (hIk.1 68 _) (by decide) c19)) zl_X7_146 zi_X7_ready zs_X7_ready zc_X7_ready zn_X7 zd_X7_ready (Nat.le_of_ble_eq_true rfl) dX7_expire_102 (by omega) (by omega) ?_
                refine zr_iinc_1 (v := 1) hO dX7_expire_105 (by decide) (by decide) rfl ?_
                refine zV_pc (pc' := 108) rfl ?_
                refine zr_goto (tgt := 2) hO dX7_expire_108 (by decide) ?_
                refine zV_d2 ?_
                rw [nI_1]
                simp only [mB_expire, if_pos c7, if_neg c19, if_neg c27, if_neg c40, if_neg c61, if_pos c72] at ih
                first | exact ih | contradiction
            · refine zr_goto (tgt := 105) hO dX7_expire_64 (by decide) ?_
              refine zr_iinc_1 (v := 1) hO dX7_expire_105 (by decide) (by decide) rfl ?_
              refine zr_goto (tgt := 2) hO dX7_expire_108 (by decide) ?_
              refine zV_d2 ?_
              rw [nI_1]
              simp only [mB_expire, if_pos c7, if_neg c19, if_neg c27, if_neg c40, if_pos c61] at ih
              first | exact ih | contradiction
          · refine zr_aload_0 hO dX7_expire_43 ?_
            refine zg_getfi0 (c := 7) hO (zM_0 hM) (by decide) (by decide) (by decide) zf_X7_7 rfl dX7_expire_44 ?_
            refine zr_goto (tgt := 61) hO dX7_expire_47 (by decide) ?_
            refine zr_icmp_ge (tgt := 67) hO dX7_expire_61 (by decide) (fun c61 => ?_) (fun c61 => ?_)
            · refine zr_aload_0 hO dX7_expire_67 ?_
              refine zg_getfi0 (c := 7) hO (zM_0 hM) (by decide) (by decide) (by decide) zf_X7_98 rfl dX7_expire_68 ?_
              refine zr_iconst (v := 1) hO dX7_expire_71 (by decide) ?_
              refine zr_icmp_ne (tgt := 93) hO dX7_expire_72 (by decide) (fun c72 => ?_) (fun c72 => ?_)
              · refine zr_aload_0 hO dX7_expire_93 ?_
                refine zr_getfr (c := 7) hO (by decide) (by decide) zf_X7_79 (zM_0 hM) rfl rfl dX7_expire_94 ?_
                refine zr_iload_1 hO dX7_expire_97 ?_
                refine zr_iconst (v := (-1)) hO dX7_expire_98 (by decide) ?_
                refine zg_iastN hO (zM_68 hM) (by decide) (by omega) (by decide) dX7_expire_99 ?_
                refine zr_aload_0 hO dX7_expire_100 ?_
                refine zr_iload_2 hO dX7_expire_101 ?_
                refine zV_pc (pc' := 102) rfl ?_
                refine zr_V1 (D := d) hO hRm hL (by omega) (by decide) (c := 7) (by decide) (zM_0 hM) rfl rfl (e_X7_ready (d := d - 1) htr hM (by omega) (zin_m1 (b := 15) (hIk.1 68 _) (by decide) c19)) zl_X7_146 zi_X7_ready zs_X7_ready zc_X7_ready zn_X7 zd_X7_ready (Nat.le_of_ble_eq_true rfl) dX7_expire_102 (by omega) (by omega) ?_
                refine zr_iinc_1 (v := 1) hO dX7_expire_105 (by decide) (by decide) rfl ?_
                refine zr_goto (tgt := 2) hO dX7_expire_108 (by decide) ?_
                refine zV_d2 ?_
                rw [nI_1]
                simp only [mB_expire, if_pos c7, if_neg c19, if_neg c27, if_pos c40, if_neg c61, if_neg c72] at ih
                first | exact ih | contradiction
              · refine zr_aload_0 hO dX7_expire_75 ?_
                refine zr_getfr (c := 7) hO (by decide) (by decide) zf_X7_61 (zM_0 hM) rfl rfl dX7_expire_76 ?_
                refine zr_iload_2 hO dX7_expire_79 ?_
                refine zr_iconst (v := 3) hO dX7_expire_80 (by decide) ?_
                refine zr_aload_0 hO dX7_expire_81 ?_
                refine zr_getfr (c := 7) hO (by decide) (by decide) zf_X7_61 (zM_0 hM) rfl rfl dX7_expire_82 ?_
                refine zr_iload_2 hO dX7_expire_85 ?_
                refine zV_pc (pc' := 86) rfl ?_
                refine zg_iald hO (zM_46 hM) (by decide) (by first | assumption | exact zin_m1 (b := 15) (hIk.1 68 _) (by decide) c19) dX7_expire_86 ?_
                refine zr_iconst (v := 1) hO dX7_expire_87 (by decide) ?_
                refine zr_iadd hO dX7_expire_88 ?_
                refine zr_mmin hO (by omega) hRm zl_X7_134 dX7_expire_89 (Nat.le_of_ble_eq_true rfl) ?_
                refine zg_iast hO (zM_46 hM) (by decide) (by first | assumption | exact zin_m1 (b := 15) (hIk.1 68 _) (by decide) c19) dX7_expire_92 ?_
                refine zr_aload_0 hO dX7_expire_93 ?_
                refine zr_getfr (c := 7) hO (by decide) (by decide) zf_X7_79 (zM_0 hM) rfl rfl dX7_expire_94 ?_
                refine zV_pc (pc' := 97) rfl ?_
                refine zr_iload_1 hO dX7_expire_97 ?_
                refine zr_iconst (v := (-1)) hO dX7_expire_98 (by decide) ?_
                refine zg_iastN hO (zM_68 hM) (by decide) (by omega) (by decide) dX7_expire_99 ?_
                refine zr_aload_0 hO dX7_expire_100 ?_
                refine zr_iload_2 hO dX7_expire_101 ?_
                refine zr_V1 (D := d) hO hRm hL (by omega) (by decide) (c := 7) (by decide) (zM_0 hM) rfl rfl (e_X7_ready (d := d - 1) htr hM (by omega) (zin_m1 (b := 15) (hIk.1 68 _) (by decide) c19)) zl_X7_146 zi_X7_ready zs_X7_ready zc_X7_ready zn_X7 zd_X7_ready (Nat.le_of_ble_eq_true rfl) dX7_expire_102 (by omega) (by omega) ?_
                refine zr_iinc_1 (v := 1) hO dX7_expire_105 (by decide) (by decide) rfl ?_
                refine zV_pc (pc' := 108) rfl ?_
                refine zr_goto (tgt := 2) hO dX7_expire_108 (by decide) ?_
                refine zV_d2 ?_
                rw [nI_1]
                simp only [mB_expire, if_pos c7, if_neg c19, if_neg c27, if_pos c40, if_neg c61, if_pos c72] at ih
                first | exact ih | contradiction
            · refine zr_goto (tgt := 105) hO dX7_expire_64 (by decide) ?_
              refine zr_iinc_1 (v := 1) hO dX7_expire_105 (by decide) (by decide) rfl ?_
              refine zr_goto (tgt := 2) hO dX7_expire_108 (by decide) ?_
              refine zV_d2 ?_
              rw [nI_1]
              simp only [mB_expire, if_pos c7, if_neg c19, if_neg c27, if_pos c40, if_pos c61] at ih
              first | exact ih | contradiction
  · intro hIk
    refine zr_iload_1 hO dX7_expire_2 ?_
    refine zr_aload_0 hO dX7_expire_3 ?_
    refine zg_getfi0 (c := 7) hO (zM_0 hM) (by decide) (by decide) (by decide) zf_X7_16 rfl dX7_expire_4 ?_
    refine zr_icmp_ge (tgt := 111) hO dX7_expire_7 (by decide) (fun c7 => ?_) (fun c7 => ?_)
    · exact zr_return hO hE dX7_expire_111 (zpl_v (by first | ((simp only [mF_expire, if_neg c7]) <;> rfl) | contradiction))
    · exact absurd c7 (by rw [hIk.2 0 6 rfl]; exact zlt_F (zmW_p hW))
set_option maxRecDepth 100000 in
set_option maxHeartbeats 4000000 in
theorem e_X7_isAhead {l : Launch} {G : zGm} {d n o : Nat} {ly : zLy} {τ : zTu} {σ M : zSg} {t lent oth olent : Int32} (htr : l.stackTraces = false) (hM : zM ly o) (hd : 0 ≤ d) (ht : vp_in t 16) (h2 : vp_in oth 16) : zEv l G d 0 0 (yX7_isAhead, cX7_isAhead, 5, some .boolean) [.ref o, .int t, .int lent, .int oth, .int olent] (fun x => n ≤ x) ly τ (zwr σ o 103 M) (zPl n ly τ (zwr σ o 103 M) (some (.int (zb (mF_isAhead M t lent oth olent))))) := by
  refine zEv_of (ls := [some (.ref o), some (.int t), some (.int lent), some (.int oth), some (.int olent), none, none, none, none]) htr (by decide) (Nat.le_of_ble_eq_true rfl) rfl (fun X hO hE hN hRm hL hNm => ?_)
  have hO : zOk G X RX7 cX7_isAhead 5 := hO
  refine zr_iload_2 hO dX7_isAhead_0 ?_
  refine zr_iload_4 hO dX7_isAhead_1 ?_
  refine zr_icmp_eq (tgt := 18) hO dX7_isAhead_3 (by decide) (fun c3 => ?_) (fun c3 => ?_)
  · refine zr_aload_0 hO dX7_isAhead_18 ?_
    refine zr_getfr (c := 7) hO (by decide) (by decide) zf_X7_46 (zM_0 hM) rfl rfl dX7_isAhead_19 ?_
    refine zr_iload_1 hO dX7_isAhead_22 ?_
    refine zg_iald hO (zM_41 hM) (by decide) (by first | assumption) dX7_isAhead_23 ?_
    refine zr_iconst (v := 2) hO dX7_isAhead_24 (by decide) ?_
    refine zr_icmp_ne (tgt := 32) hO dX7_isAhead_25 (by decide) (fun c25 => ?_) (fun c25 => ?_)
    · refine zr_iconst (v := 0) hO dX7_isAhead_32 (by decide) ?_
      refine zr_aload_0 hO dX7_isAhead_33 ?_
      refine zr_getfr (c := 7) hO (by decide) (by decide) zf_X7_46 (zM_0 hM) rfl rfl dX7_isAhead_34 ?_
      refine zr_iload_3 hO dX7_isAhead_37 ?_
      refine zg_iald hO (zM_41 hM) (by decide) (by first | assumption) dX7_isAhead_38 ?_
      refine zr_iconst (v := 2) hO dX7_isAhead_39 (by decide) ?_
      refine zr_icmp_ne (tgt := 47) hO dX7_isAhead_40 (by decide) (fun c40 => ?_) (fun c40 => ?_)
      · refine zr_iconst (v := 0) hO dX7_isAhead_47 (by decide) ?_
        refine zr_icmp_eq (tgt := 67) hO dX7_isAhead_48 (by decide) (fun c48 => ?_) (fun c48 => ?_)
        · refine zr_aload_0 hO dX7_isAhead_67 ?_
          refine zr_getfr (c := 7) hO (by decide) (by decide) zf_X7_58 (zM_0 hM) rfl rfl dX7_isAhead_68 ?_
          refine zr_iload_1 hO dX7_isAhead_71 ?_
          refine zg_iald hO (zM_45 hM) (by decide) (by first | assumption) dX7_isAhead_72 ?_
          refine zr_aload_0 hO dX7_isAhead_73 ?_
          refine zr_getfr (c := 7) hO (by decide) (by decide) zf_X7_58 (zM_0 hM) rfl rfl dX7_isAhead_74 ?_
          refine zr_iload_3 hO dX7_isAhead_77 ?_
          refine zV_pc (pc' := 78) rfl ?_
          refine zg_iald hO (zM_45 hM) (by decide) (by first | assumption) dX7_isAhead_78 ?_
          refine zr_icmp_ge (tgt := 86) hO dX7_isAhead_79 (by decide) (fun c79 => ?_) (fun c79 => ?_)
          · refine zr_iconst (v := 0) hO dX7_isAhead_86 (by decide) ?_
            exact zr_zreturn hO hE (by decide) dX7_isAhead_87 (zpl_i (by first | ((simp only [mF_isAhead, mS_ahead, mQ_ahead, if_pos c3, if_neg c25, if_neg c40, if_neg c79]) <;> rfl) | contradiction) rfl)
          · refine zr_iconst (v := 1) hO dX7_isAhead_82 (by decide) ?_
            refine zr_goto (tgt := 87) hO dX7_isAhead_83 (by decide) ?_
            exact zr_zreturn hO hE (by decide) dX7_isAhead_87 (zpl_i (by first | ((simp only [mF_isAhead, mS_ahead, mQ_ahead, if_pos c3, if_neg c25, if_neg c40, if_pos c79]) <;> rfl) | contradiction) rfl)
        · exact absurd (by decide) c48
      · refine zr_iconst (v := 1) hO dX7_isAhead_43 (by decide) ?_
        refine zr_goto (tgt := 48) hO dX7_isAhead_44 (by decide) ?_
        refine zr_icmp_eq (tgt := 67) hO dX7_isAhead_48 (by decide) (fun c48 => ?_) (fun c48 => ?_)
        · exact absurd c48 (by decide)
        · refine zr_aload_0 hO dX7_isAhead_51 ?_
          refine zr_getfr (c := 7) hO (by decide) (by decide) zf_X7_46 (zM_0 hM) rfl rfl dX7_isAhead_52 ?_
          refine zr_iload_1 hO dX7_isAhead_55 ?_
          refine zg_iald hO (zM_41 hM) (by decide) (by first | assumption) dX7_isAhead_56 ?_
          refine zr_iconst (v := 2) hO dX7_isAhead_57 (by decide) ?_
          refine zr_icmp_ne (tgt := 65) hO dX7_isAhead_58 (by decide) (fun c58 => ?_) (fun c58 => ?_)
          · refine zr_iconst (v := 0) hO dX7_isAhead_65 (by decide) ?_
            exact zr_zreturn hO hE (by decide) dX7_isAhead_66 (zpl_i (by first | ((simp only [mF_isAhead, mS_ahead, mQ_ahead, if_pos c3, if_neg c25, if_pos c40, if_neg c58]) <;> rfl) | contradiction) rfl)
          · refine zr_iconst (v := 1) hO dX7_isAhead_61 (by decide) ?_
            refine zr_goto (tgt := 66) hO dX7_isAhead_62 (by decide) ?_
            exact zr_zreturn hO hE (by decide) dX7_isAhead_66 (zpl_i (by first | ((simp only [mF_isAhead, mS_ahead, mQ_ahead, if_pos c3, if_neg c25, if_pos c40, if_pos c58]) <;> rfl) | contradiction) rfl)
    · refine zr_iconst (v := 1) hO dX7_isAhead_28 (by decide) ?_
      refine zr_goto (tgt := 33) hO dX7_isAhead_29 (by decide) ?_
      refine zr_aload_0 hO dX7_isAhead_33 ?_
      refine zr_getfr (c := 7) hO (by decide) (by decide) zf_X7_46 (zM_0 hM) rfl rfl dX7_isAhead_34 ?_
      refine zr_iload_3 hO dX7_isAhead_37 ?_
      refine zg_iald hO (zM_41 hM) (by decide) (by first | assumption) dX7_isAhead_38 ?_
      refine zr_iconst (v := 2) hO dX7_isAhead_39 (by decide) ?_
      refine zV_pc (pc' := 40) rfl ?_
      refine zr_icmp_ne (tgt := 47) hO dX7_isAhead_40 (by decide) (fun c40 => ?_) (fun c40 => ?_)
      · refine zr_iconst (v := 0) hO dX7_isAhead_47 (by decide) ?_
        refine zr_icmp_eq (tgt := 67) hO dX7_isAhead_48 (by decide) (fun c48 => ?_) (fun c48 => ?_)
        · exact absurd c48 (by decide)
        · refine zr_aload_0 hO dX7_isAhead_51 ?_
          refine zr_getfr (c := 7) hO (by decide) (by decide) zf_X7_46 (zM_0 hM) rfl rfl dX7_isAhead_52 ?_
          refine zr_iload_1 hO dX7_isAhead_55 ?_
          refine zg_iald hO (zM_41 hM) (by decide) (by first | assumption) dX7_isAhead_56 ?_
          refine zr_iconst (v := 2) hO dX7_isAhead_57 (by decide) ?_
          refine zr_icmp_ne (tgt := 65) hO dX7_isAhead_58 (by decide) (fun c58 => ?_) (fun c58 => ?_)
          · refine zr_iconst (v := 0) hO dX7_isAhead_65 (by decide) ?_
            exact zr_zreturn hO hE (by decide) dX7_isAhead_66 (zpl_i (by first | ((simp only [mF_isAhead, mS_ahead, mQ_ahead, if_pos c3, if_pos c25, if_neg c40, if_neg c58]) <;> rfl) | contradiction) rfl)
          · refine zr_iconst (v := 1) hO dX7_isAhead_61 (by decide) ?_
            refine zr_goto (tgt := 66) hO dX7_isAhead_62 (by decide) ?_
            exact zr_zreturn hO hE (by decide) dX7_isAhead_66 (zpl_i (by first | ((simp only [mF_isAhead, mS_ahead, mQ_ahead, if_pos c3, if_pos c25, if_neg c40, if_pos c58]) <;> rfl) | contradiction) rfl)
      · refine zr_iconst (v := 1) hO dX7_isAhead_43 (by decide) ?_
        refine zr_goto (tgt := 48) hO dX7_isAhead_44 (by decide) ?_
        refine zr_icmp_eq (tgt := 67) hO dX7_isAhead_48 (by decide) (fun c48 => ?_) (fun c48 => ?_)
        · refine zr_aload_0 hO dX7_isAhead_67 ?_
          refine zr_getfr (c := 7) hO (by decide) (by decide) zf_X7_58 (zM_0 hM) rfl rfl dX7_isAhead_68 ?_
          refine zr_iload_1 hO dX7_isAhead_71 ?_
          refine zg_iald hO (zM_45 hM) (by decide) (by first | assumption) dX7_isAhead_72 ?_
          refine zr_aload_0 hO dX7_isAhead_73 ?_
          refine zr_getfr (c := 7) hO (by decide) (by decide) zf_X7_58 (zM_0 hM) rfl rfl dX7_isAhead_74 ?_
          refine zr_iload_3 hO dX7_isAhead_77 ?_
          refine zV_pc (pc' := 78) rfl ?_
          refine zg_iald hO (zM_45 hM) (by decide) (by first | assumption) dX7_isAhead_78 ?_
          refine zr_icmp_ge (tgt := 86) hO dX7_isAhead_79 (by decide) (fun c79 => ?_) (fun c79 => ?_)
          · refine zr_iconst (v := 0) hO dX7_isAhead_86 (by decide) ?_
            exact zr_zreturn hO hE (by decide) dX7_isAhead_87 (zpl_i (by first | ((simp only [mF_isAhead, mS_ahead, mQ_ahead, if_pos c3, if_pos c25, if_pos c40, if_neg c79]) <;> rfl) | contradiction) rfl)
          · refine zr_iconst (v := 1) hO dX7_isAhead_82 (by decide) ?_
            refine zr_goto (tgt := 87) hO dX7_isAhead_83 (by decide) ?_
            exact zr_zreturn hO hE (by decide) dX7_isAhead_87 (zpl_i (by first | ((simp only [mF_isAhead, mS_ahead, mQ_ahead, if_pos c3, if_pos c25, if_pos c40, if_pos c79]) <;> rfl) | contradiction) rfl)
        · exact absurd (by decide) c48
  · refine zr_iload_2 hO dX7_isAhead_6 ?_
    refine zr_iload_4 hO dX7_isAhead_7 ?_
    refine zr_icmp_ge (tgt := 16) hO dX7_isAhead_9 (by decide) (fun c9 => ?_) (fun c9 => ?_)
    · refine zr_iconst (v := 0) hO dX7_isAhead_16 (by decide) ?_
      exact zr_zreturn hO hE (by decide) dX7_isAhead_17 (zpl_i (by first | ((simp only [mF_isAhead, mS_ahead, mQ_ahead, if_neg c3, if_neg c9]) <;> rfl) | contradiction) rfl)
    · refine zr_iconst (v := 1) hO dX7_isAhead_12 (by decide) ?_
      refine zr_goto (tgt := 17) hO dX7_isAhead_13 (by decide) ?_
      exact zr_zreturn hO hE (by decide) dX7_isAhead_17 (zpl_i (by first | ((simp only [mF_isAhead, mS_ahead, mQ_ahead, if_neg c3, if_pos c9]) <;> rfl) | contradiction) rfl)
set_option maxRecDepth 100000 in
set_option maxHeartbeats 4000000 in
theorem e_X7_runOne {l : Launch} {G : zGm} {d n o : Nat} {ly : zLy} {τ : zTu} {σ M : zSg} {t p n9 : Int32} (htr : l.stackTraces = false) (hM : zM ly o) (hd : 5 ≤ d) (hW : zmW M) (ht : vp_in t 16) (hp : vp_in p 3) : zEv l G d 0 0 (yX7_runOne, cX7_runOne, 4, none) [.ref o, .int t, .int p, .int n9] (fun x => n ≤ x) ly τ (zwr σ o 103 M) (zPl n ly τ (zwr σ o 103 (mF_runOne M t p n9)) none) := by
  refine zEv_of (ls := [some (.ref o), some (.int t), some (.int p), some (.int n9), none, none, none, none, none]) htr (by decide) (Nat.le_of_ble_eq_true rfl) rfl (fun X hO hE hN hRm hL hNm => ?_)
  have hO : zOk G X RX7 cX7_runOne 4 := hO
  have key80 : ∀ M1 : zSg, zk M M1 → mF_runC M1 t p n9 = mF_runOne M t p n9 → zV G X 4 0 0 (fun x => n ≤ x) ly τ (zwr σ o 103 M1) 80 [some (.ref o), some (.int t), some (.int p), some (.int n9), none, none, none, none, none] [] := by
    intro M1 hM1 he9
    refine zr_aload_0 hO dX7_runOne_80 ?_
    refine zr_getfr (c := 7) hO (by decide) (by decide) zf_X7_82 (zM_0 hM) rfl rfl dX7_runOne_81 ?_
    refine zr_iload_2 hO dX7_runOne_84 ?_
    refine zr_dup2 hO dX7_runOne_85 rfl rfl ?_
    refine zg_iald hO (zM_69 hM) (by decide) (by first | assumption) dX7_runOne_86 ?_
    refine zr_iconst (v := 1) hO dX7_runOne_87 (by decide) ?_
    refine zr_iadd hO dX7_runOne_88 ?_
    refine zV_pc (pc' := 89) rfl ?_
    refine zg_iast hO (zM_69 hM) (by decide) (by first | assumption) dX7_runOne_89 ?_
    refine zr_aload_0 hO dX7_runOne_90 ?_
    refine zr_getfr (c := 7) hO (by decide) (by decide) zf_X7_55 (zM_0 hM) rfl rfl dX7_runOne_91 ?_
    refine zr_iload_1 hO dX7_runOne_94 ?_
    refine zr_dup2 hO dX7_runOne_95 rfl rfl ?_
    refine zg_iald hO (zM_44 hM) (by decide) (by first | assumption) dX7_runOne_96 ?_
    refine zr_iconst (v := 1) hO dX7_runOne_97 (by decide) ?_
    refine zV_pc (pc' := 98) rfl ?_
    refine zr_iadd hO dX7_runOne_98 ?_
    refine zg_iast hO (zM_44 hM) (by decide) (by first | assumption) dX7_runOne_99 ?_
    refine zr_aload_0 hO dX7_runOne_100 ?_
    refine zr_getfr (c := 7) hO (by decide) (by decide) zf_X7_55 (zM_0 hM) rfl rfl dX7_runOne_101 ?_
    refine zr_iload_1 hO dX7_runOne_104 ?_
    refine zg_iald hO (zM_44 hM) (by decide) (by first | assumption) dX7_runOne_105 ?_
    refine zr_iload_3 hO dX7_runOne_106 ?_
    refine zV_pc (pc' := 107) rfl ?_
    refine zr_icmp_ge (tgt := 111) hO dX7_runOne_107 (by decide) (fun c107 => ?_) (fun c107 => ?_)
    · refine zr_aload_0 hO dX7_runOne_111 ?_
      refine zr_getfr (c := 7) hO (by decide) (by decide) zf_X7_55 (zM_0 hM) rfl rfl dX7_runOne_112 ?_
      refine zr_iload_1 hO dX7_runOne_115 ?_
      refine zr_iconst (v := 0) hO dX7_runOne_116 (by decide) ?_
      refine zg_iast hO (zM_44 hM) (by decide) (by first | assumption) dX7_runOne_117 ?_
      refine zr_aload_0 hO dX7_runOne_118 ?_
      refine zr_getfr (c := 7) hO (by decide) (by decide) zf_X7_49 (zM_0 hM) rfl rfl dX7_runOne_119 ?_
      refine zV_pc (pc' := 122) rfl ?_
      refine zr_iload_1 hO dX7_runOne_122 ?_
      refine zr_dup2 hO dX7_runOne_123 rfl rfl ?_
      refine zg_iald hO (zM_42 hM) (by decide) (by first | assumption) dX7_runOne_124 ?_
      refine zr_iconst (v := 1) hO dX7_runOne_125 (by decide) ?_
      refine zr_iadd hO dX7_runOne_126 ?_
      refine zg_iast hO (zM_42 hM) (by decide) (by first | assumption) dX7_runOne_127 ?_
      refine zr_aload_0 hO dX7_runOne_128 ?_
      refine zV_pc (pc' := 129) rfl ?_
      refine zr_getfr (c := 7) hO (by decide) (by decide) zf_X7_49 (zM_0 hM) rfl rfl dX7_runOne_129 ?_
      refine zr_iload_1 hO dX7_runOne_132 ?_
      refine zg_iald hO (zM_42 hM) (by decide) (by first | assumption) dX7_runOne_133 ?_
      refine zr_aload_0 hO dX7_runOne_134 ?_
      refine zr_getfr (c := 7) hO (by decide) (by decide) zf_X7_35 (zM_0 hM) rfl rfl dX7_runOne_135 ?_
      refine zr_iload_1 hO dX7_runOne_138 ?_
      refine zg_iald hO (zM_6 hM) (by decide) (by first | assumption) dX7_runOne_139 ?_
      refine zV_pc (pc' := 140) rfl ?_
      refine zr_icmp_ge (tgt := 144) hO dX7_runOne_140 (by decide) (fun c140 => ?_) (fun c140 => ?_)
      · refine zr_aload_0 hO dX7_runOne_144 ?_
        refine zr_getfr (c := 7) hO (by decide) (by decide) zf_X7_52 (zM_0 hM) rfl rfl dX7_runOne_145 ?_
        refine zr_iload_1 hO dX7_runOne_148 ?_
        refine zr_dup2 hO dX7_runOne_149 rfl rfl ?_
        refine zg_iald hO (zM_43 hM) (by decide) (by first | assumption) dX7_runOne_150 ?_
        refine zr_iconst (v := 1) hO dX7_runOne_151 (by decide) ?_
        refine zr_iadd hO dX7_runOne_152 ?_
        refine zV_pc (pc' := 153) rfl ?_
        refine zg_iast hO (zM_43 hM) (by decide) (by first | assumption) dX7_runOne_153 ?_
        refine zr_aload_0 hO dX7_runOne_154 ?_
        refine zr_getfr (c := 7) hO (by decide) (by decide) zf_X7_49 (zM_0 hM) rfl rfl dX7_runOne_155 ?_
        refine zr_iload_1 hO dX7_runOne_158 ?_
        refine zr_iconst (v := 0) hO dX7_runOne_159 (by decide) ?_
        refine zg_iast hO (zM_42 hM) (by decide) (by first | assumption) dX7_runOne_160 ?_
        refine zr_aload_0 hO dX7_runOne_161 ?_
        refine zV_pc (pc' := 162) rfl ?_
        refine zr_getfr (c := 7) hO (by decide) (by decide) zf_X7_52 (zM_0 hM) rfl rfl dX7_runOne_162 ?_
        refine zr_iload_1 hO dX7_runOne_165 ?_
        refine zg_iald hO (zM_43 hM) (by decide) (by first | assumption) dX7_runOne_166 ?_
        refine zr_aload_0 hO dX7_runOne_167 ?_
        refine zr_getfr (c := 7) hO (by decide) (by decide) zf_X7_32 (zM_0 hM) rfl rfl dX7_runOne_168 ?_
        refine zr_iload_1 hO dX7_runOne_171 ?_
        refine zg_iald hO (zM_5 hM) (by decide) (by first | assumption) dX7_runOne_172 ?_
        refine zV_pc (pc' := 173) rfl ?_
        refine zr_icmp_ne (tgt := 181) hO dX7_runOne_173 (by decide) (fun c173 => ?_) (fun c173 => ?_)
        · exact zr_return hO hE dX7_runOne_181 (zpl_v (by rw [← he9]; first | ((simp only [mF_runC, mF_runTail, if_neg c107, if_neg c140, if_neg c173]) <;> rfl) | contradiction))
        · refine zr_aload_0 hO dX7_runOne_176 ?_
          refine zr_iload_1 hO dX7_runOne_177 ?_
          refine zr_V1 (D := d) hO hRm hL (by omega) (by decide) (c := 7) (by decide) (zM_0 hM) rfl rfl (e_X7_finish (d := d - 1) htr hM (by omega) (zk_up (zk_up (zk_up (zk_up (zk_up (zk_up hM1 (f := 69) (by rfl) (zr_any _)) (f := 44) (by rfl) (zr_any _)) (f := 44) (by rfl) (zr_any _)) (f := 42) (by rfl) (zr_any _)) (f := 43) (by rfl) (zr_any _)) (f := 42) (by rfl) (zr_any _)).1 ht) zl_X7_190 zi_X7_finish zs_X7_finish zc_X7_finish zn_X7 zd_X7_finish (Nat.le_of_ble_eq_true rfl) dX7_runOne_178 (by omega) (by omega) ?_
          exact zr_return hO hE dX7_runOne_181 (zpl_v (by rw [← he9]; first | ((simp only [mF_runC, mF_runTail, if_neg c107, if_neg c140, if_pos c173]) <;> rfl) | contradiction))
      · exact zr_return hO hE dX7_runOne_143 (zpl_v (by rw [← he9]; first | ((simp only [mF_runC, mF_runTail, if_neg c107, if_pos c140]) <;> rfl) | contradiction))
    · exact zr_return hO hE dX7_runOne_110 (zpl_v (by rw [← he9]; first | ((simp only [mF_runC, mF_runTail, if_pos c107]) <;> rfl) | contradiction))
  have key23 : ∀ M1 : zSg, zk M M1 → mF_runB M1 t p n9 = mF_runOne M t p n9 → zV G X 4 0 0 (fun x => n ≤ x) ly τ (zwr σ o 103 M1) 23 [some (.ref o), some (.int t), some (.int p), some (.int n9), none, none, none, none, none] [] := by
    intro M1 hM1 he9
    refine zr_aload_0 hO dX7_runOne_23 ?_
    refine zr_getfr (c := 7) hO (by decide) (by decide) zf_X7_76 (zM_0 hM) rfl rfl dX7_runOne_24 ?_
    refine zr_iload_1 hO dX7_runOne_27 ?_
    refine zr_aaldIx hO (zM_51 hM) (by first | assumption) dX7_runOne_28 (fun hx28_0 => ?_)
    refine zr_iconst (v := 0) hO dX7_runOne_29 (by decide) ?_
    refine zr_dup2 hO dX7_runOne_30 rfl rfl ?_
    refine zg_iald hO (zM_cnt hM hx28_0) (by have := hx28_0; omega) (zin_i ⟨by decide, by decide⟩) dX7_runOne_31 ?_
    refine zV_pc (pc' := 32) rfl ?_
    refine zr_iconst (v := 1) hO dX7_runOne_32 (by decide) ?_
    refine zr_iadd hO dX7_runOne_33 ?_
    refine zg_iast hO (zM_cnt hM hx28_0) (by have := hx28_0; omega) (zin_i ⟨by decide, by decide⟩) dX7_runOne_34 ?_
    refine zr_aload_0 hO dX7_runOne_35 ?_
    refine zr_getfr (c := 7) hO (by decide) (by decide) zf_X7_23 (zM_0 hM) rfl rfl dX7_runOne_36 ?_
    refine zr_aload_0 hO dX7_runOne_39 ?_
    refine zr_getfr (c := 7) hO (by decide) (by decide) zf_X7_29 (zM_0 hM) rfl rfl dX7_runOne_40 ?_
    refine zV_pc (pc' := 43) rfl ?_
    refine zr_iload_1 hO dX7_runOne_43 ?_
    refine zg_iald hO (zM_4 hM) (by decide) (by first | assumption) dX7_runOne_44 ?_
    refine zr_dup2 hO dX7_runOne_45 rfl rfl ?_
    refine zg_iald hO (zM_2 hM) (by decide) (by first | assumption | exact zin_r (a := 0) (b := 3) ((zk_runB2 hM1 ht).1 4 _) (by decide) (by decide)) dX7_runOne_46 ?_
    refine zr_iconst (v := 1) hO dX7_runOne_47 (by decide) ?_
    refine zr_iadd hO dX7_runOne_48 ?_
    refine zg_iast hO (zM_2 hM) (by decide) (by first | assumption | exact zin_r (a := 0) (b := 3) ((zk_runB2 hM1 ht).1 4 _) (by decide) (by decide)) dX7_runOne_49 ?_
    refine zV_pc (pc' := 50) rfl ?_
    refine zr_aload_0 hO dX7_runOne_50 ?_
    refine zg_getfi0 (c := 7) hO (zM_0 hM) (by decide) (by decide) (by decide) zf_X7_98 rfl dX7_runOne_51 ?_
    refine zr_iconst (v := 2) hO dX7_runOne_54 (by decide) ?_
    refine zr_icmp_ne (tgt := 80) hO dX7_runOne_55 (by decide) (fun c55 => ?_) (fun c55 => ?_)
    · exact key80 _ (zk_runB3 (zk_runB2 hM1 ht) _ _) (by rw [← he9]; first | ((simp only [mF_runB, if_neg c55]) <;> rfl) | contradiction)
    · refine zr_aload_0 hO dX7_runOne_58 ?_
      refine zr_getfr (c := 7) hO (by decide) (by decide) zf_X7_64 (zM_0 hM) rfl rfl dX7_runOne_59 ?_
      refine zr_iload_1 hO dX7_runOne_62 ?_
      refine zr_dup2 hO dX7_runOne_63 rfl rfl ?_
      refine zg_iald hO (zM_47 hM) (by decide) (by first | assumption) dX7_runOne_64 ?_
      refine zr_sipush (v := 840) hO dX7_runOne_65 (by decide) ?_
      refine zr_bipush (v := 8) hO dX7_runOne_68 (by decide) ?_
      refine zV_pc (pc' := 70) rfl ?_
      refine zr_aload_0 hO dX7_runOne_70 ?_
      refine zr_getfr (c := 7) hO (by decide) (by decide) zf_X7_26 (zM_0 hM) rfl rfl dX7_runOne_71 ?_
      refine zr_iload_1 hO dX7_runOne_74 ?_
      refine zg_iald hO (zM_3 hM) (by decide) (by first | assumption) dX7_runOne_75 ?_
      refine zr_isub hO dX7_runOne_76 ?_
      refine zr_idiv hO dX7_runOne_77 (by first | assumption | exact zdiv8 ((zk_runB3 (zk_runB2 hM1 ht) _ _).1 3 _)) ?_
      refine zr_iadd hO dX7_runOne_78 ?_
      refine zV_pc (pc' := 79) rfl ?_
      refine zg_iast hO (zM_47 hM) (by decide) (by first | assumption) dX7_runOne_79 ?_
      exact key80 _ (zk_up (zk_runB3 (zk_runB2 hM1 ht) _ _) (f := 47) (by rfl) (zr_any _)) (by rw [← he9]; first | ((simp only [mF_runB, if_pos c55]) <;> rfl) | contradiction)
  refine zr_aload_0 hO dX7_runOne_0 ?_
  refine zr_getfr (c := 7) hO (by decide) (by decide) zf_X7_76 (zM_0 hM) rfl rfl dX7_runOne_1 ?_
  refine zr_iload_1 hO dX7_runOne_4 ?_
  refine zr_aaldIx hO (zM_51 hM) (by first | assumption) dX7_runOne_5 (fun hx5_1 => ?_)
  refine zr_iconst (v := 0) hO dX7_runOne_6 (by decide) ?_
  refine zg_iald hO (zM_cnt hM hx5_1) (by have := hx5_1; omega) (zin_i ⟨by decide, by decide⟩) dX7_runOne_7 ?_
  refine zr_if_ne (tgt := 23) hO dX7_runOne_8 (by decide) (fun c8 => ?_) (fun c8 => ?_)
  · exact key23 _ (zk_r hW) (by first | ((simp only [mF_runOne, if_neg c8]) <;> rfl) | contradiction)
  · refine zr_aload_0 hO dX7_runOne_11 ?_
    refine zr_getfr (c := 7) hO (by decide) (by decide) zf_X7_76 (zM_0 hM) rfl rfl dX7_runOne_12 ?_
    refine zr_iload_1 hO dX7_runOne_15 ?_
    refine zr_aaldIx hO (zM_51 hM) (by first | assumption) dX7_runOne_16 (fun hx16_2 => ?_)
    refine zr_iconst (v := 3) hO dX7_runOne_17 (by decide) ?_
    refine zr_aload_0 hO dX7_runOne_18 ?_
    refine zg_getfi0 (c := 7) hO (zM_0 hM) (by decide) (by decide) (by decide) zf_X7_95 rfl dX7_runOne_19 ?_
    refine zV_pc (pc' := 22) rfl ?_
    refine zg_iast hO (zM_cnt hM hx16_2) (by have := hx16_2; omega) (zin_i ⟨by decide, by decide⟩) dX7_runOne_22 ?_
    exact key23 _ (zk_cnt (zk_r hW) (zin_lt ht) _ _) (by first | ((simp only [mF_runOne, if_pos c8]) <;> rfl) | contradiction)
set_option maxRecDepth 100000 in
set_option maxHeartbeats 4000000 in
theorem e_X7_doStep {l : Launch} {G : zGm} {d n o : Nat} {ly : zLy} {τ : zTu} {σ M : zSg} {t its q : Int32} (htr : l.stackTraces = false) (hM : zM ly o) (hd : 4 ≤ d) (hW : zmW M) (ht : vp_in t 16) (hn : its = 2 ∨ its = 3 ∨ its = 4 ∨ its = 5 → vp_in q 6) : zEv l G d 0 0 (yX7_doStep, cX7_doStep, 4, none) [.ref o, .int t, .int its, .int q] (fun x => n ≤ x) ly τ (zwr σ o 103 M) (zPl n ly τ (zwr σ o 103 (mF_doStep M t its q)) none) := by
  refine zEv_of (ls := [some (.ref o), some (.int t), some (.int its), some (.int q), none, none, none, none, none]) htr (by decide) (Nat.le_of_ble_eq_true rfl) rfl (fun X hO hE hN hRm hL hNm => ?_)
  have hO : zOk G X RX7 cX7_doStep 4 := hO
  refine zr_iload_2 hO dX7_doStep_0 ?_
  refine zr_iconst (v := 2) hO dX7_doStep_1 (by decide) ?_
  refine zr_icmp_ne (tgt := 33) hO dX7_doStep_2 (by decide) (fun c2 => ?_) (fun c2 => ?_)
  · refine zr_iload_2 hO dX7_doStep_33 ?_
    refine zr_iconst (v := 5) hO dX7_doStep_34 (by decide) ?_
    refine zr_icmp_ne (tgt := 55) hO dX7_doStep_35 (by decide) (fun c35 => ?_) (fun c35 => ?_)
    · refine zr_aload_0 hO dX7_doStep_55 ?_
      refine zr_getfr (c := 7) hO (by decide) (by decide) zf_X7_49 (zM_0 hM) rfl rfl dX7_doStep_56 ?_
      refine zr_iload_1 hO dX7_doStep_59 ?_
      refine zr_dup2 hO dX7_doStep_60 rfl rfl ?_
      refine zg_iald hO (zM_42 hM) (by decide) (by first | assumption | exact hn (Or.inl ‹_›) | exact hn (Or.inr (Or.inl ‹_›)) | exact hn (Or.inr (Or.inr (Or.inl ‹_›))) | exact hn (Or.inr (Or.inr (Or.inr ‹_›)))) dX7_doStep_61 ?_
      refine zr_iconst (v := 1) hO dX7_doStep_62 (by decide) ?_
      refine zr_iadd hO dX7_doStep_63 ?_
      refine zV_pc (pc' := 64) rfl ?_
      refine zg_iast hO (zM_42 hM) (by decide) (by first | assumption | exact hn (Or.inl ‹_›) | exact hn (Or.inr (Or.inl ‹_›)) | exact hn (Or.inr (Or.inr (Or.inl ‹_›))) | exact hn (Or.inr (Or.inr (Or.inr ‹_›)))) dX7_doStep_64 ?_
      refine zr_iload_2 hO dX7_doStep_65 ?_
      by_cases c66_1 : its = 1
      · refine zr_tableIn (tgt := 100) hO dX7_doStep_66 (by rw [c66_1]; decide) (by rw [c66_1]; decide) (by rw [c66_1]; rfl) (by decide) ?_
        refine zr_aload_0 hO dX7_doStep_100 ?_
        refine zr_iload_1 hO dX7_doStep_101 ?_
        refine zr_V1 (D := d) hO hRm hL (by omega) (by decide) (c := 7) (by decide) (zM_0 hM) rfl rfl (e_X7_leave (d := d - 1) htr hM (by omega) (zmW_up hW (f := 42) (zr_any _))) zl_X7_159 zi_X7_leave zs_X7_leave zc_X7_leave zn_X7 zd_X7_leave (Nat.le_of_ble_eq_true rfl) dX7_doStep_102 (by omega) (by omega) ?_
        refine zr_aload_0 hO dX7_doStep_105 ?_
        refine zr_getfr (c := 7) hO (by decide) (by decide) zf_X7_46 (zM_0 hM) rfl rfl dX7_doStep_106 ?_
        refine zr_iload_1 hO dX7_doStep_109 ?_
        refine zr_iconst (v := 3) hO dX7_doStep_110 (by decide) ?_
        refine zV_pc (pc' := 111) rfl ?_
        refine zg_iast hO (zM_41 hM) (by decide) (by first | assumption | exact hn (Or.inl ‹_›) | exact hn (Or.inr (Or.inl ‹_›)) | exact hn (Or.inr (Or.inr (Or.inl ‹_›))) | exact hn (Or.inr (Or.inr (Or.inr ‹_›)))) dX7_doStep_111 ?_
        refine zr_aload_0 hO dX7_doStep_112 ?_
        refine zr_getfr (c := 7) hO (by decide) (by decide) zf_X7_67 (zM_0 hM) rfl rfl dX7_doStep_113 ?_
        refine zr_iload_1 hO dX7_doStep_116 ?_
        refine zr_aload_0 hO dX7_doStep_117 ?_
        refine zg_getfi0 (c := 7) hO (zM_0 hM) (by decide) (by decide) (by decide) zf_X7_95 rfl dX7_doStep_118 ?_
        refine zr_iload_3 hO dX7_doStep_121 ?_
        refine zV_pc (pc' := 122) rfl ?_
        refine zr_iadd hO dX7_doStep_122 ?_
        refine zg_iast hO (zM_48 hM) (by decide) (by first | assumption | exact hn (Or.inl ‹_›) | exact hn (Or.inr (Or.inl ‹_›)) | exact hn (Or.inr (Or.inr (Or.inl ‹_›))) | exact hn (Or.inr (Or.inr (Or.inr ‹_›)))) dX7_doStep_123 ?_
        refine zr_goto (tgt := 186) hO dX7_doStep_124 (by decide) ?_
        exact zr_return hO hE dX7_doStep_186 (zpl_v (by first | ((simp only [mF_doStep, mD_aw, mD_go, mD_sleep, if_neg c2, if_neg c35, if_pos c66_1, if_neg (show ¬ its = 2 by rw [c66_1]; decide), if_neg (show ¬ its = 3 by rw [c66_1]; decide), if_neg (show ¬ its = 4 by rw [c66_1]; decide), if_neg (show ¬ its = 5 by rw [c66_1]; decide)]) <;> rfl) | contradiction))
      by_cases c66_2 : its = 2
      · refine zr_tableIn (tgt := 127) hO dX7_doStep_66 (by rw [c66_2]; decide) (by rw [c66_2]; decide) (by rw [c66_2]; rfl) (by decide) ?_
        refine zr_aload_0 hO dX7_doStep_127 ?_
        refine zr_getfr (c := 7) hO (by decide) (by decide) zf_X7_88 (zM_0 hM) rfl rfl dX7_doStep_128 ?_
        refine zr_iload_3 hO dX7_doStep_131 ?_
        refine zr_iload_1 hO dX7_doStep_132 ?_
        refine zg_iast hO (zM_101 hM) (by decide) (by first | assumption | exact hn (Or.inl ‹_›) | exact hn (Or.inr (Or.inl ‹_›)) | exact hn (Or.inr (Or.inr (Or.inl ‹_›))) | exact hn (Or.inr (Or.inr (Or.inr ‹_›)))) dX7_doStep_133 ?_
        refine zr_goto (tgt := 186) hO dX7_doStep_134 (by decide) ?_
        exact zr_return hO hE dX7_doStep_186 (zpl_v (by first | ((simp only [mF_doStep, mD_aw, mD_go, mD_sleep, if_neg c2, if_neg c35, if_neg c66_1, if_pos c66_2, if_neg (show ¬ its = 1 by rw [c66_2]; decide), if_neg (show ¬ its = 3 by rw [c66_2]; decide), if_neg (show ¬ its = 4 by rw [c66_2]; decide), if_neg (show ¬ its = 5 by rw [c66_2]; decide)]) <;> rfl) | contradiction))
      by_cases c66_3 : its = 3
      · refine zr_tableIn (tgt := 137) hO dX7_doStep_66 (by rw [c66_3]; decide) (by rw [c66_3]; decide) (by rw [c66_3]; rfl) (by decide) ?_
        refine zr_aload_0 hO dX7_doStep_137 ?_
        refine zr_getfr (c := 7) hO (by decide) (by decide) zf_X7_88 (zM_0 hM) rfl rfl dX7_doStep_138 ?_
        refine zr_iload_3 hO dX7_doStep_141 ?_
        refine zg_iald hO (zM_101 hM) (by decide) (by first | assumption | exact hn (Or.inl ‹_›) | exact hn (Or.inr (Or.inl ‹_›)) | exact hn (Or.inr (Or.inr (Or.inl ‹_›))) | exact hn (Or.inr (Or.inr (Or.inr ‹_›)))) dX7_doStep_142 ?_
        refine zr_iload_1 hO dX7_doStep_143 ?_
        refine zr_icmp_ne (tgt := 186) hO dX7_doStep_144 (by decide) (fun c144 => ?_) (fun c144 => ?_)
        · exact zr_return hO hE dX7_doStep_186 (zpl_v (by first | ((simp only [mF_doStep, mD_aw, mD_go, mD_sleep, if_neg c2, if_neg c35, if_neg c66_1, if_neg c66_2, if_pos c66_3, if_neg c144, if_neg (show ¬ its = 1 by rw [c66_3]; decide), if_neg (show ¬ its = 2 by rw [c66_3]; decide), if_neg (show ¬ its = 4 by rw [c66_3]; decide), if_neg (show ¬ its = 5 by rw [c66_3]; decide)]) <;> rfl) | contradiction))
        · refine zr_aload_0 hO dX7_doStep_147 ?_
          refine zr_iload_3 hO dX7_doStep_148 ?_
          refine zr_V1 (D := d) hO hRm hL (by omega) (by decide) (c := 7) (by decide) (zM_0 hM) rfl rfl (e_X7_free (d := d - 1) htr hM (by omega) (zmW_up hW (f := 42) (zr_any _)) (by first | exact hn (Or.inl ‹_›) | exact hn (Or.inr (Or.inl ‹_›)) | exact hn (Or.inr (Or.inr (Or.inl ‹_›))) | exact hn (Or.inr (Or.inr (Or.inr ‹_›))))) zl_X7_162 zi_X7_free zs_X7_free zc_X7_free zn_X7 zd_X7_free (Nat.le_of_ble_eq_true rfl) dX7_doStep_149 (by omega) (by omega) ?_
          refine zr_goto (tgt := 186) hO dX7_doStep_152 (by decide) ?_
          exact zr_return hO hE dX7_doStep_186 (zpl_v (by first | ((simp only [mF_doStep, mD_aw, mD_go, mD_sleep, if_neg c2, if_neg c35, if_neg c66_1, if_neg c66_2, if_pos c66_3, if_pos c144, if_neg (show ¬ its = 1 by rw [c66_3]; decide), if_neg (show ¬ its = 2 by rw [c66_3]; decide), if_neg (show ¬ its = 4 by rw [c66_3]; decide), if_neg (show ¬ its = 5 by rw [c66_3]; decide)]) <;> rfl) | contradiction))
      by_cases c66_4 : its = 4
      · refine zr_tableIn (tgt := 155) hO dX7_doStep_66 (by rw [c66_4]; decide) (by rw [c66_4]; decide) (by rw [c66_4]; rfl) (by decide) ?_
        refine zr_aload_0 hO dX7_doStep_155 ?_
        refine zr_iload_3 hO dX7_doStep_156 ?_
        refine zr_V1 (D := d) hO hRm hL (by omega) (by decide) (c := 7) (by decide) (zM_0 hM) rfl rfl (e_X7_signalNow (d := d - 1) htr hM (by omega) (zmW_up hW (f := 42) (zr_any _)) (by first | exact hn (Or.inl ‹_›) | exact hn (Or.inr (Or.inl ‹_›)) | exact hn (Or.inr (Or.inr (Or.inl ‹_›))) | exact hn (Or.inr (Or.inr (Or.inr ‹_›))))) zl_X7_196 zi_X7_signalNow zs_X7_signalNow zc_X7_signalNow zn_X7 zd_X7_signalNow (Nat.le_of_ble_eq_true rfl) dX7_doStep_157 (by omega) (by omega) ?_
        refine zr_goto (tgt := 186) hO dX7_doStep_160 (by decide) ?_
        exact zr_return hO hE dX7_doStep_186 (zpl_v (by first | ((simp only [mF_doStep, mD_aw, mD_go, mD_sleep, if_neg c2, if_neg c35, if_neg c66_1, if_neg c66_2, if_neg c66_3, if_pos c66_4, if_neg (show ¬ its = 1 by rw [c66_4]; decide), if_neg (show ¬ its = 2 by rw [c66_4]; decide), if_neg (show ¬ its = 3 by rw [c66_4]; decide), if_neg (show ¬ its = 5 by rw [c66_4]; decide)]) <;> rfl) | contradiction))
      by_cases c66_5 : its = 5
      · refine zr_tableIn (tgt := 163) hO dX7_doStep_66 (by rw [c66_5]; decide) (by rw [c66_5]; decide) (by rw [c66_5]; rfl) (by decide) ?_
        refine zr_aload_0 hO dX7_doStep_163 ?_
        refine zr_getfr (c := 7) hO (by decide) (by decide) zf_X7_91 (zM_0 hM) rfl rfl dX7_doStep_164 ?_
        refine zr_iload_3 hO dX7_doStep_167 ?_
        refine zr_dup2 hO dX7_doStep_168 rfl rfl ?_
        refine zg_iald hO (zM_102 hM) (by decide) (by first | assumption | exact hn (Or.inl ‹_›) | exact hn (Or.inr (Or.inl ‹_›)) | exact hn (Or.inr (Or.inr (Or.inl ‹_›))) | exact hn (Or.inr (Or.inr (Or.inr ‹_›)))) dX7_doStep_169 ?_
        refine zr_iconst (v := 1) hO dX7_doStep_170 (by decide) ?_
        refine zr_isub hO dX7_doStep_171 ?_
        refine zV_pc (pc' := 172) rfl ?_
        refine zg_iast hO (zM_102 hM) (by decide) (by first | assumption | exact hn (Or.inl ‹_›) | exact hn (Or.inr (Or.inl ‹_›)) | exact hn (Or.inr (Or.inr (Or.inl ‹_›))) | exact hn (Or.inr (Or.inr (Or.inr ‹_›)))) dX7_doStep_172 ?_
        refine zr_goto (tgt := 186) hO dX7_doStep_173 (by decide) ?_
        exact zr_return hO hE dX7_doStep_186 (zpl_v (by first | ((simp only [mF_doStep, mD_aw, mD_go, mD_sleep, if_neg c2, if_neg c35, if_neg c66_1, if_neg c66_2, if_neg c66_3, if_neg c66_4, if_pos c66_5, if_neg (show ¬ its = 1 by rw [c66_5]; decide), if_neg (show ¬ its = 2 by rw [c66_5]; decide), if_neg (show ¬ its = 3 by rw [c66_5]; decide), if_neg (show ¬ its = 4 by rw [c66_5]; decide)]) <;> rfl) | contradiction))
      refine zr_tableOut (tgt := 176) hO dX7_doStep_66 (by have h1 := lv_neT c66_1 (show (1 : Int32).toInt = 1 from rfl); have h2 := lv_neT c66_2 (show (2 : Int32).toInt = 2 from rfl); have h3 := lv_neT c66_3 (show (3 : Int32).toInt = 3 from rfl); have h4 := lv_neT c66_4 (show (4 : Int32).toInt = 4 from rfl); have h5 := lv_neT c66_5 (show (5 : Int32).toInt = 5 from rfl); omega) (by decide) ?_
      refine zr_aload_0 hO dX7_doStep_176 ?_
      refine zr_iload_1 hO dX7_doStep_177 ?_
      refine zr_V1 (D := d) hO hRm hL (by omega) (by decide) (c := 7) (by decide) (zM_0 hM) rfl rfl (e_X7_leave (d := d - 1) htr hM (by omega) (zmW_up hW (f := 42) (zr_any _))) zl_X7_159 zi_X7_leave zs_X7_leave zc_X7_leave zn_X7 zd_X7_leave (Nat.le_of_ble_eq_true rfl) dX7_doStep_178 (by omega) (by omega) ?_
      refine zr_aload_0 hO dX7_doStep_181 ?_
      refine zr_iload_1 hO dX7_doStep_182 ?_
      refine zr_V1 (D := d) hO hRm hL (by omega) (by decide) (c := 7) (by decide) (zM_0 hM) rfl rfl (e_X7_ready (d := d - 1) htr hM (by omega) (by first | assumption | exact hn (Or.inl ‹_›) | exact hn (Or.inr (Or.inl ‹_›)) | exact hn (Or.inr (Or.inr (Or.inl ‹_›))) | exact hn (Or.inr (Or.inr (Or.inr ‹_›))))) zl_X7_146 zi_X7_ready zs_X7_ready zc_X7_ready zn_X7 zd_X7_ready (Nat.le_of_ble_eq_true rfl) dX7_doStep_183 (by omega) (by omega) ?_
      exact zr_return hO hE dX7_doStep_186 (zpl_v (by first | ((simp only [mF_doStep, mD_aw, mD_go, mD_sleep, if_neg c2, if_neg c35, if_neg c66_1, if_neg c66_2, if_neg c66_3, if_neg c66_4, if_neg c66_5]) <;> rfl) | contradiction))
    · refine zr_aload_0 hO dX7_doStep_38 ?_
      refine zr_getfr (c := 7) hO (by decide) (by decide) zf_X7_91 (zM_0 hM) rfl rfl dX7_doStep_39 ?_
      refine zr_iload_3 hO dX7_doStep_42 ?_
      refine zg_iald hO (zM_102 hM) (by decide) (by first | assumption | exact hn (Or.inl ‹_›) | exact hn (Or.inr (Or.inl ‹_›)) | exact hn (Or.inr (Or.inr (Or.inl ‹_›))) | exact hn (Or.inr (Or.inr (Or.inr ‹_›)))) dX7_doStep_43 ?_
      refine zr_if_ne (tgt := 55) hO dX7_doStep_44 (by decide) (fun c44 => ?_) (fun c44 => ?_)
      · refine zr_aload_0 hO dX7_doStep_55 ?_
        refine zr_getfr (c := 7) hO (by decide) (by decide) zf_X7_49 (zM_0 hM) rfl rfl dX7_doStep_56 ?_
        refine zr_iload_1 hO dX7_doStep_59 ?_
        refine zr_dup2 hO dX7_doStep_60 rfl rfl ?_
        refine zg_iald hO (zM_42 hM) (by decide) (by first | assumption | exact hn (Or.inl ‹_›) | exact hn (Or.inr (Or.inl ‹_›)) | exact hn (Or.inr (Or.inr (Or.inl ‹_›))) | exact hn (Or.inr (Or.inr (Or.inr ‹_›)))) dX7_doStep_61 ?_
        refine zr_iconst (v := 1) hO dX7_doStep_62 (by decide) ?_
        refine zr_iadd hO dX7_doStep_63 ?_
        refine zV_pc (pc' := 64) rfl ?_
        refine zg_iast hO (zM_42 hM) (by decide) (by first | assumption | exact hn (Or.inl ‹_›) | exact hn (Or.inr (Or.inl ‹_›)) | exact hn (Or.inr (Or.inr (Or.inl ‹_›))) | exact hn (Or.inr (Or.inr (Or.inr ‹_›)))) dX7_doStep_64 ?_
        refine zr_iload_2 hO dX7_doStep_65 ?_
        refine zr_tableIn (tgt := 163) hO dX7_doStep_66 (by rw [c35]; decide) (by rw [c35]; decide) (by rw [c35]; rfl) (by decide) ?_
        refine zr_aload_0 hO dX7_doStep_163 ?_
        refine zr_getfr (c := 7) hO (by decide) (by decide) zf_X7_91 (zM_0 hM) rfl rfl dX7_doStep_164 ?_
        refine zr_iload_3 hO dX7_doStep_167 ?_
        refine zr_dup2 hO dX7_doStep_168 rfl rfl ?_
        refine zV_pc (pc' := 169) rfl ?_
        refine zg_iald hO (zM_102 hM) (by decide) (by first | assumption | exact hn (Or.inl ‹_›) | exact hn (Or.inr (Or.inl ‹_›)) | exact hn (Or.inr (Or.inr (Or.inl ‹_›))) | exact hn (Or.inr (Or.inr (Or.inr ‹_›)))) dX7_doStep_169 ?_
        refine zr_iconst (v := 1) hO dX7_doStep_170 (by decide) ?_
        refine zr_isub hO dX7_doStep_171 ?_
        refine zg_iast hO (zM_102 hM) (by decide) (by first | assumption | exact hn (Or.inl ‹_›) | exact hn (Or.inr (Or.inl ‹_›)) | exact hn (Or.inr (Or.inr (Or.inl ‹_›))) | exact hn (Or.inr (Or.inr (Or.inr ‹_›)))) dX7_doStep_172 ?_
        refine zr_goto (tgt := 186) hO dX7_doStep_173 (by decide) ?_
        exact zr_return hO hE dX7_doStep_186 (zpl_v (by first | ((simp only [mF_doStep, mD_aw, mD_go, mD_sleep, if_neg c2, if_pos c35, if_neg c44, if_neg (show ¬ its = 1 by rw [c35]; decide), if_neg (show ¬ its = 2 by rw [c35]; decide), if_neg (show ¬ its = 3 by rw [c35]; decide), if_neg (show ¬ its = 4 by rw [c35]; decide)]) <;> rfl) | contradiction))
      · refine zr_aload_0 hO dX7_doStep_47 ?_
        refine zr_iload_1 hO dX7_doStep_48 ?_
        refine zr_iconst (v := 5) hO dX7_doStep_49 (by decide) ?_
        refine zr_iload_3 hO dX7_doStep_50 ?_
        refine zr_V3 (D := d) hO hRm hL (by omega) (by decide) (c := 7) (by decide) (zM_0 hM) rfl rfl (e_X7_stay (d := d - 1) htr hM (by omega) hW ht) zl_X7_193 zi_X7_stay zs_X7_stay zc_X7_stay zn_X7 zd_X7_stay (Nat.le_of_ble_eq_true rfl) dX7_doStep_51 (by omega) (by omega) ?_
        exact zr_return hO hE dX7_doStep_54 (zpl_v (by first | ((simp only [mF_doStep, mD_aw, mD_go, mD_sleep, if_neg c2, if_pos c35, if_pos c44, if_neg (show ¬ its = 1 by rw [c35]; decide), if_neg (show ¬ its = 2 by rw [c35]; decide), if_neg (show ¬ its = 3 by rw [c35]; decide), if_neg (show ¬ its = 4 by rw [c35]; decide)]) <;> rfl) | contradiction))
  · refine zr_aload_0 hO dX7_doStep_5 ?_
    refine zr_getfr (c := 7) hO (by decide) (by decide) zf_X7_88 (zM_0 hM) rfl rfl dX7_doStep_6 ?_
    refine zr_iload_3 hO dX7_doStep_9 ?_
    refine zg_iald hO (zM_101 hM) (by decide) (by first | assumption | exact hn (Or.inl ‹_›) | exact hn (Or.inr (Or.inl ‹_›)) | exact hn (Or.inr (Or.inr (Or.inl ‹_›))) | exact hn (Or.inr (Or.inr (Or.inr ‹_›)))) dX7_doStep_10 ?_
    refine zr_iconst (v := (-1)) hO dX7_doStep_11 (by decide) ?_
    refine zr_icmp_eq (tgt := 33) hO dX7_doStep_12 (by decide) (fun c12 => ?_) (fun c12 => ?_)
    · refine zr_iload_2 hO dX7_doStep_33 ?_
      refine zr_iconst (v := 5) hO dX7_doStep_34 (by decide) ?_
      refine zr_icmp_ne (tgt := 55) hO dX7_doStep_35 (by decide) (fun c35 => ?_) (fun c35 => ?_)
      · refine zr_aload_0 hO dX7_doStep_55 ?_
        refine zr_getfr (c := 7) hO (by decide) (by decide) zf_X7_49 (zM_0 hM) rfl rfl dX7_doStep_56 ?_
        refine zr_iload_1 hO dX7_doStep_59 ?_
        refine zr_dup2 hO dX7_doStep_60 rfl rfl ?_
        refine zg_iald hO (zM_42 hM) (by decide) (by first | assumption | exact hn (Or.inl ‹_›) | exact hn (Or.inr (Or.inl ‹_›)) | exact hn (Or.inr (Or.inr (Or.inl ‹_›))) | exact hn (Or.inr (Or.inr (Or.inr ‹_›)))) dX7_doStep_61 ?_
        refine zr_iconst (v := 1) hO dX7_doStep_62 (by decide) ?_
        refine zr_iadd hO dX7_doStep_63 ?_
        refine zV_pc (pc' := 64) rfl ?_
        refine zg_iast hO (zM_42 hM) (by decide) (by first | assumption | exact hn (Or.inl ‹_›) | exact hn (Or.inr (Or.inl ‹_›)) | exact hn (Or.inr (Or.inr (Or.inl ‹_›))) | exact hn (Or.inr (Or.inr (Or.inr ‹_›)))) dX7_doStep_64 ?_
        refine zr_iload_2 hO dX7_doStep_65 ?_
        refine zr_tableIn (tgt := 127) hO dX7_doStep_66 (by rw [c2]; decide) (by rw [c2]; decide) (by rw [c2]; rfl) (by decide) ?_
        refine zr_aload_0 hO dX7_doStep_127 ?_
        refine zr_getfr (c := 7) hO (by decide) (by decide) zf_X7_88 (zM_0 hM) rfl rfl dX7_doStep_128 ?_
        refine zr_iload_3 hO dX7_doStep_131 ?_
        refine zr_iload_1 hO dX7_doStep_132 ?_
        refine zV_pc (pc' := 133) rfl ?_
        refine zg_iast hO (zM_101 hM) (by decide) (by first | assumption | exact hn (Or.inl ‹_›) | exact hn (Or.inr (Or.inl ‹_›)) | exact hn (Or.inr (Or.inr (Or.inl ‹_›))) | exact hn (Or.inr (Or.inr (Or.inr ‹_›)))) dX7_doStep_133 ?_
        refine zr_goto (tgt := 186) hO dX7_doStep_134 (by decide) ?_
        exact zr_return hO hE dX7_doStep_186 (zpl_v (by first | ((simp only [mF_doStep, mD_aw, mD_go, mD_sleep, if_pos c2, if_pos c12, if_neg c35, if_neg (show ¬ its = 1 by rw [c2]; decide), if_neg (show ¬ its = 3 by rw [c2]; decide), if_neg (show ¬ its = 4 by rw [c2]; decide), if_neg (show ¬ its = 5 by rw [c2]; decide)]) <;> rfl) | contradiction))
      · exact absurd (c2.symm.trans c35) (by decide)
    · refine zr_aload_0 hO dX7_doStep_15 ?_
      refine zr_getfr (c := 7) hO (by decide) (by decide) zf_X7_88 (zM_0 hM) rfl rfl dX7_doStep_16 ?_
      refine zr_iload_3 hO dX7_doStep_19 ?_
      refine zg_iald hO (zM_101 hM) (by decide) (by first | assumption | exact hn (Or.inl ‹_›) | exact hn (Or.inr (Or.inl ‹_›)) | exact hn (Or.inr (Or.inr (Or.inl ‹_›))) | exact hn (Or.inr (Or.inr (Or.inr ‹_›)))) dX7_doStep_20 ?_
      refine zr_iload_1 hO dX7_doStep_21 ?_
      refine zr_icmp_eq (tgt := 33) hO dX7_doStep_22 (by decide) (fun c22 => ?_) (fun c22 => ?_)
      · refine zr_iload_2 hO dX7_doStep_33 ?_
        refine zr_iconst (v := 5) hO dX7_doStep_34 (by decide) ?_
        refine zr_icmp_ne (tgt := 55) hO dX7_doStep_35 (by decide) (fun c35 => ?_) (fun c35 => ?_)
        · refine zr_aload_0 hO dX7_doStep_55 ?_
          refine zr_getfr (c := 7) hO (by decide) (by decide) zf_X7_49 (zM_0 hM) rfl rfl dX7_doStep_56 ?_
          refine zr_iload_1 hO dX7_doStep_59 ?_
          refine zr_dup2 hO dX7_doStep_60 rfl rfl ?_
          refine zg_iald hO (zM_42 hM) (by decide) (by first | assumption | exact hn (Or.inl ‹_›) | exact hn (Or.inr (Or.inl ‹_›)) | exact hn (Or.inr (Or.inr (Or.inl ‹_›))) | exact hn (Or.inr (Or.inr (Or.inr ‹_›)))) dX7_doStep_61 ?_
          refine zr_iconst (v := 1) hO dX7_doStep_62 (by decide) ?_
          refine zr_iadd hO dX7_doStep_63 ?_
          refine zV_pc (pc' := 64) rfl ?_
          refine zg_iast hO (zM_42 hM) (by decide) (by first | assumption | exact hn (Or.inl ‹_›) | exact hn (Or.inr (Or.inl ‹_›)) | exact hn (Or.inr (Or.inr (Or.inl ‹_›))) | exact hn (Or.inr (Or.inr (Or.inr ‹_›)))) dX7_doStep_64 ?_
          refine zr_iload_2 hO dX7_doStep_65 ?_
          refine zr_tableIn (tgt := 127) hO dX7_doStep_66 (by rw [c2]; decide) (by rw [c2]; decide) (by rw [c2]; rfl) (by decide) ?_
          refine zr_aload_0 hO dX7_doStep_127 ?_
          refine zr_getfr (c := 7) hO (by decide) (by decide) zf_X7_88 (zM_0 hM) rfl rfl dX7_doStep_128 ?_
          refine zr_iload_3 hO dX7_doStep_131 ?_
          refine zr_iload_1 hO dX7_doStep_132 ?_
          refine zV_pc (pc' := 133) rfl ?_
          refine zg_iast hO (zM_101 hM) (by decide) (by first | assumption | exact hn (Or.inl ‹_›) | exact hn (Or.inr (Or.inl ‹_›)) | exact hn (Or.inr (Or.inr (Or.inl ‹_›))) | exact hn (Or.inr (Or.inr (Or.inr ‹_›)))) dX7_doStep_133 ?_
          refine zr_goto (tgt := 186) hO dX7_doStep_134 (by decide) ?_
          exact zr_return hO hE dX7_doStep_186 (zpl_v (by first | ((simp only [mF_doStep, mD_aw, mD_go, mD_sleep, if_pos c2, if_neg c12, if_pos c22, if_neg c35, if_neg (show ¬ its = 1 by rw [c2]; decide), if_neg (show ¬ its = 3 by rw [c2]; decide), if_neg (show ¬ its = 4 by rw [c2]; decide), if_neg (show ¬ its = 5 by rw [c2]; decide)]) <;> rfl) | contradiction))
        · exact absurd (c2.symm.trans c35) (by decide)
      · refine zr_aload_0 hO dX7_doStep_25 ?_
        refine zr_iload_1 hO dX7_doStep_26 ?_
        refine zr_iconst (v := 4) hO dX7_doStep_27 (by decide) ?_
        refine zr_iload_3 hO dX7_doStep_28 ?_
        refine zr_V3 (D := d) hO hRm hL (by omega) (by decide) (c := 7) (by decide) (zM_0 hM) rfl rfl (e_X7_stay (d := d - 1) htr hM (by omega) hW ht) zl_X7_193 zi_X7_stay zs_X7_stay zc_X7_stay zn_X7 zd_X7_stay (Nat.le_of_ble_eq_true rfl) dX7_doStep_29 (by omega) (by omega) ?_
        exact zr_return hO hE dX7_doStep_32 (zpl_v (by first | ((simp only [mF_doStep, mD_aw, mD_go, mD_sleep, if_pos c2, if_neg c12, if_neg c22, if_neg (show ¬ its = 1 by rw [c2]; decide), if_neg (show ¬ its = 3 by rw [c2]; decide), if_neg (show ¬ its = 4 by rw [c2]; decide), if_neg (show ¬ its = 5 by rw [c2]; decide)]) <;> rfl) | contradiction))
