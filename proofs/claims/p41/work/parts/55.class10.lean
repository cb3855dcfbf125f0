set_option maxRecDepth 100000 in
set_option maxHeartbeats 400000 in
theorem e_X0_passTick {l : Launch} {G : zGm} {d n o : Nat} {ly : zLy} {τ : zTu} {σ M : zSg}  (htr : l.stackTraces = false) (hM : zC ly o) (hd : 5 ≤ d)  : zEv l G d 0 0 (yX0_passTick, cX0_passTick, 4, none) [.ref o] (fun x => n ≤ x) ly τ (zwr σ o 95 M) (zPl n ly τ (zwr σ o 95 (cF_tick M)) none) := by
  refine zEv_of (ls := [some (.ref o), none, none, none, none, none, none, none, none]) htr (by decide) (Nat.le_of_ble_eq_true rfl) rfl (fun X hO hE hN hRm hL hNm => ?_)
  have hO : zOk G X RX0 cX0_passTick 4 := hO
  refine zr_aload_0 hO dX0_passTick_0 ?_
  refine zr_V0 (D := d) hO hRm hL (by omega) (by decide) (c := 0) (by decide) (zC_0 hM) rfl rfl (e_X0_beginPeriods (d := d - 1) htr hM (by omega)) zl_X0_163 zi_X0_beginPeriods zs_X0_beginPeriods zc_X0_beginPeriods zn_X0 zd_X0_beginPeriods (Nat.le_of_ble_eq_true rfl) dX0_passTick_1 (by omega) (by omega) ?_
  refine zr_aload_0 hO dX0_passTick_4 ?_
  refine zr_V0 (D := d) hO hRm hL (by omega) (by decide) (c := 0) (by decide) (zC_0 hM) rfl rfl (e_X0_wakeSleepers (d := d - 1) htr hM (by omega)) zl_X0_166 zi_X0_wakeSleepers zs_X0_wakeSleepers zc_X0_wakeSleepers zn_X0 zd_X0_wakeSleepers (Nat.le_of_ble_eq_true rfl) dX0_passTick_5 (by omega) (by omega) ?_
  refine zr_aload_0 hO dX0_passTick_8 ?_
  refine zr_V0 (D := d) hO hRm hL (by omega) (by decide) (c := 0) (by decide) (zC_0 hM) rfl rfl (e_X0_endTurns (d := d - 1) htr hM (by omega)) zl_X0_169 zi_X0_endTurns zs_X0_endTurns zc_X0_endTurns zn_X0 zd_X0_endTurns (Nat.le_of_ble_eq_true rfl) dX0_passTick_9 (by omega) (by omega) ?_
  refine zr_aload_0 hO dX0_passTick_12 ?_
  refine zV_pc (pc' := 13) rfl ?_
  refine zr_V0 (D := d) hO hRm hL (by omega) (by decide) (c := 0) (by decide) (zC_0 hM) rfl rfl (e_X0_shareProcessors (d := d - 1) htr hM (by omega)) zl_X0_172 zi_X0_shareProcessors zs_X0_shareProcessors zc_X0_shareProcessors zn_X0 zd_X0_shareProcessors (Nat.le_of_ble_eq_true rfl) dX0_passTick_13 (by omega) (by omega) ?_
  refine zr_iconst (v := 0) hO dX0_passTick_16 (by decide) ?_
  refine zr_istore_1 hO dX0_passTick_17 (by decide) rfl ?_
  refine z_for (P := fun k s => zV G X 4 0 0 (fun x => n ≤ x) ly τ (zwr σ o 95 s) 18 [some (.ref o), some (.int (nI k)), none, none, none, none, none, none, none] []) 3 cB_run (fun _ _ => True) (cF_share (cF_turns (cF_wakes (cF_begin M)))) trivial (fun _ _ _ _ => trivial) ?_ ?_
  · intro k s hk hIk ih
    refine zr_iload_1 hO dX0_passTick_18 ?_
    refine zr_iconst (v := 3) hO dX0_passTick_19 (by decide) ?_
    refine zr_icmp_ge (tgt := 131) hO dX0_passTick_20 (by decide) (fun c20 => ?_) (fun c20 => ?_)
    · exact absurd (zlt_T (x := 3) (by decide) hk) c20
    · refine zr_aload_0 hO dX0_passTick_23 ?_
      refine zr_aload_0 hO dX0_passTick_24 ?_
      refine zr_getfr (c := 0) hO (by decide) (by decide) zf_X0_41 (zC_0 hM) rfl rfl dX0_passTick_25 ?_
      refine zr_iload_1 hO dX0_passTick_28 ?_
      refine zg_ialdN hO (zC_12 hM) (by decide) hk (by decide) dX0_passTick_29 ?_
      refine zr_V1 (D := d) hO hRm hL (by omega) (by decide) (c := 0) (by decide) (zC_0 hM) rfl rfl (e_X0_taskAt (d := d - 1) htr hM (by omega)) zl_X0_103 zi_X0_taskAt zs_X0_taskAt zc_X0_taskAt zn_X0 zd_X0_taskAt (Nat.le_of_ble_eq_true rfl) dX0_passTick_30 (by omega) (by omega) ?_
      generalize hq30 : cF_at _ = r30
      rcases r30 with _ | r30
      · refine zr_nstore_2 hO dX0_passTick_33 (by decide) rfl ?_
        refine zr_aload_0 hO dX0_passTick_34 ?_
        refine zr_nload_2 hO dX0_passTick_35 ?_
        refine zr_V1 (D := d) hO hRm hL (by omega) (by decide) (c := 0) (by decide) (zC_0 hM) rfl rfl (e_X0_passStepsN (d := d - 1) htr hM (by omega)) zl_X0_175 zi_X0_passSteps zs_X0_passSteps zc_X0_passSteps zn_X0 zd_X0_passSteps (Nat.le_of_ble_eq_true rfl) dX0_passTick_36 (by omega) (by omega) ?_
        refine zr_nload_2 hO dX0_passTick_39 ?_
        refine zr_ifnullN (tgt := 55) hO dX0_passTick_40 (by decide) ?_
        refine zr_iconst (v := 0) hO dX0_passTick_55 (by decide) ?_
        refine zV_pc (pc' := 56) rfl ?_
        refine zr_istore_3 hO dX0_passTick_56 (by decide) rfl ?_
        refine zr_aload_0 hO dX0_passTick_57 ?_
        refine zr_getfr (c := 0) hO (by decide) (by decide) zf_X0_21 (zC_0 hM) rfl rfl dX0_passTick_58 ?_
        refine zr_iload_1 hO dX0_passTick_61 ?_
        refine zr_aload_0 hO dX0_passTick_62 ?_
        refine zg_getfi0 (c := 0) hO (zC_0 hM) (by decide) (by decide) (by decide) zf_X0_69 rfl dX0_passTick_63 ?_
        refine zr_iload_3 hO dX0_passTick_66 ?_
        refine zV_pc (pc' := 67) rfl ?_
        refine zr_if_eq (tgt := 77) hO dX0_passTick_67 (by decide) (fun c67 => ?_) (fun c67 => ?_)
        · refine zr_iconst (v := (-1)) hO dX0_passTick_77 (by decide) ?_
          refine zr_V3 (D := d) hO hRm hL (by omega) (by decide) (c := 5) (by decide) (zC_3 hM) rfl rfl (e_X5_note (d := d - 1) htr hM (by omega)) zl_X0_178 zi_X5_note zs_X5_note zc_X5_note zn_X5 zd_X5_note (Nat.le_of_ble_eq_true rfl) dX0_passTick_78 (by omega) (by omega) ?_
          refine zr_iload_1 hO dX0_passTick_81 ?_
          refine zr_aload_0 hO dX0_passTick_82 ?_
          refine zr_getfr (c := 0) hO (by decide) (by decide) zf_X0_12 (zC_0 hM) rfl rfl dX0_passTick_83 ?_
          refine zg_getfi (c := 2) hO (zC_1 hM) (by decide) (by decide) (by decide) zf_X0_182 rfl dX0_passTick_86 ?_
          refine zr_icmp_ge (tgt := 100) hO dX0_passTick_89 (by decide) (fun c89 => ?_) (fun c89 => ?_)
          · refine zr_iload_3 hO dX0_passTick_100 ?_
            refine zr_if_eq (tgt := 109) hO dX0_passTick_101 (by decide) (fun c101 => ?_) (fun c101 => ?_)
            · refine zr_iload_3 hO dX0_passTick_109 ?_
              refine zr_if_eq (tgt := 125) hO dX0_passTick_110 (by decide) (fun c110 => ?_) (fun c110 => ?_)
              · refine zr_iinc_1 (v := 1) hO dX0_passTick_125 (by decide) (by decide) rfl ?_
                refine zr_goto (tgt := 18) hO dX0_passTick_128 (by decide) ?_
                refine zV_d2 ?_
                refine zV_d3 ?_
                rw [nI_1]
                simp only [cB_run, if_pos c20, hq30, if_neg c89] at ih
                first | exact ih | contradiction
              · exact absurd (by decide) c110
            · exact absurd (by decide) c101
          · refine zr_aload_0 hO dX0_passTick_92 ?_
            refine zr_getfr (c := 0) hO (by decide) (by decide) zf_X0_21 (zC_0 hM) rfl rfl dX0_passTick_93 ?_
            refine zr_iload_3 hO dX0_passTick_96 ?_
            refine zr_V1 (D := d) hO hRm hL (by omega) (by decide) (c := 5) (by decide) (zC_3 hM) rfl rfl (e_X5_countOffer (d := d - 1) (b := false) htr hM (by omega)) zl_X0_185 zi_X5_countOffer zs_X5_countOffer zc_X5_countOffer zn_X5 zd_X5_countOffer (Nat.le_of_ble_eq_true rfl) dX0_passTick_97 (by omega) (by omega) ?_
            refine zr_iload_3 hO dX0_passTick_100 ?_
            refine zr_if_eq (tgt := 109) hO dX0_passTick_101 (by decide) (fun c101 => ?_) (fun c101 => ?_)
            · refine zr_iload_3 hO dX0_passTick_109 ?_
              refine zr_if_eq (tgt := 125) hO dX0_passTick_110 (by decide) (fun c110 => ?_) (fun c110 => ?_)
              · refine zr_iinc_1 (v := 1) hO dX0_passTick_125 (by decide) (by decide) rfl ?_
                refine zr_goto (tgt := 18) hO dX0_passTick_128 (by decide) ?_
                refine zV_d2 ?_
                refine zV_d3 ?_
                rw [nI_1]
                simp only [cB_run, if_pos c20, hq30, if_pos c89] at ih
                first | exact ih | contradiction
              · exact absurd (by decide) c110
            · exact absurd (by decide) c101
        · exact absurd (by decide) c67
      · have hr30 : r30 < 16 := cF_at_lt hq30
        refine zr_astore_2 hO dX0_passTick_33 (by decide) rfl ?_
        refine zr_aload_0 hO dX0_passTick_34 ?_
        refine zr_aload_2 hO dX0_passTick_35 ?_
        refine zr_V1 (D := d) hO hRm hL (by omega) (by decide) (c := 0) (by decide) (zC_0 hM) rfl rfl (e_X0_passSteps (d := d - 1) htr hM (by omega) hr30) zl_X0_175 zi_X0_passSteps zs_X0_passSteps zc_X0_passSteps zn_X0 zd_X0_passSteps (Nat.le_of_ble_eq_true rfl) dX0_passTick_36 (by omega) (by omega) ?_
        refine zr_aload_2 hO dX0_passTick_39 ?_
        refine zr_ifnull hO dX0_passTick_40 ?_
        refine zr_aload_2 hO dX0_passTick_43 ?_
        refine zV_pc (pc' := 44) rfl ?_
        refine zg_getfi (c := 4) hO (zC_t hM hr30) (by have := hr30; unfold ztk; omega) (by decide) (by decide) zf_X0_82 rfl dX0_passTick_44 ?_
        refine zr_iconst (v := 2) hO dX0_passTick_47 (by decide) ?_
        refine zr_icmp_ne (tgt := 55) hO dX0_passTick_48 (by decide) (fun c48 => ?_) (fun c48 => ?_)
        · refine zr_iconst (v := 0) hO dX0_passTick_55 (by decide) ?_
          refine zr_istore_3 hO dX0_passTick_56 (by decide) rfl ?_
          refine zr_aload_0 hO dX0_passTick_57 ?_
          refine zr_getfr (c := 0) hO (by decide) (by decide) zf_X0_21 (zC_0 hM) rfl rfl dX0_passTick_58 ?_
          refine zr_iload_1 hO dX0_passTick_61 ?_
          refine zr_aload_0 hO dX0_passTick_62 ?_
          refine zg_getfi0 (c := 0) hO (zC_0 hM) (by decide) (by decide) (by decide) zf_X0_69 rfl dX0_passTick_63 ?_
          refine zV_pc (pc' := 66) rfl ?_
          refine zr_iload_3 hO dX0_passTick_66 ?_
          refine zr_if_eq (tgt := 77) hO dX0_passTick_67 (by decide) (fun c67 => ?_) (fun c67 => ?_)
          · refine zr_iconst (v := (-1)) hO dX0_passTick_77 (by decide) ?_
            refine zr_V3 (D := d) hO hRm hL (by omega) (by decide) (c := 5) (by decide) (zC_3 hM) rfl rfl (e_X5_note (d := d - 1) htr hM (by omega)) zl_X0_178 zi_X5_note zs_X5_note zc_X5_note zn_X5 zd_X5_note (Nat.le_of_ble_eq_true rfl) dX0_passTick_78 (by omega) (by omega) ?_
            refine zr_iload_1 hO dX0_passTick_81 ?_
            refine zr_aload_0 hO dX0_passTick_82 ?_
            refine zr_getfr (c := 0) hO (by decide) (by decide) zf_X0_12 (zC_0 hM) rfl rfl dX0_passTick_83 ?_
            refine zg_getfi (c := 2) hO (zC_1 hM) (by decide) (by decide) (by decide) zf_X0_182 rfl dX0_passTick_86 ?_
            refine zr_icmp_ge (tgt := 100) hO dX0_passTick_89 (by decide) (fun c89 => ?_) (fun c89 => ?_)
            · refine zr_iload_3 hO dX0_passTick_100 ?_
              refine zr_if_eq (tgt := 109) hO dX0_passTick_101 (by decide) (fun c101 => ?_) (fun c101 => ?_)
              · refine zr_iload_3 hO dX0_passTick_109 ?_
                refine zr_if_eq (tgt := 125) hO dX0_passTick_110 (by decide) (fun c110 => ?_) (fun c110 => ?_)
                · refine zr_iinc_1 (v := 1) hO dX0_passTick_125 (by decide) (by decide) rfl ?_
                  refine zr_goto (tgt := 18) hO dX0_passTick_128 (by decide) ?_
                  refine zV_d2 ?_
                  refine zV_d3 ?_
                  rw [nI_1]
                  simp only [cB_run, if_pos c20, hq30, if_neg c48, if_neg c89] at ih
                  first | exact ih | contradiction
                · exact absurd (by decide) c110
              · exact absurd (by decide) c101
            · refine zr_aload_0 hO dX0_passTick_92 ?_
              refine zr_getfr (c := 0) hO (by decide) (by decide) zf_X0_21 (zC_0 hM) rfl rfl dX0_passTick_93 ?_
              refine zr_iload_3 hO dX0_passTick_96 ?_
              refine zr_V1 (D := d) hO hRm hL (by omega) (by decide) (c := 5) (by decide) (zC_3 hM) rfl rfl (e_X5_countOffer (d := d - 1) (b := false) htr hM (by omega)) zl_X0_185 zi_X5_countOffer zs_X5_countOffer zc_X5_countOffer zn_X5 zd_X5_countOffer (Nat.le_of_ble_eq_true rfl) dX0_passTick_97 (by omega) (by omega) ?_
              refine zr_iload_3 hO dX0_passTick_100 ?_
              refine zr_if_eq (tgt := 109) hO dX0_passTick_101 (by decide) (fun c101 => ?_) (fun c101 => ?_)
              · refine zr_iload_3 hO dX0_passTick_109 ?_
                refine zr_if_eq (tgt := 125) hO dX0_passTick_110 (by decide) (fun c110 => ?_) (fun c110 => ?_)
                · refine zr_iinc_1 (v := 1) hO dX0_passTick_125 (by decide) (by decide) rfl ?_
                  refine zr_goto (tgt := 18) hO dX0_passTick_128 (by decide) ?_
                  refine zV_d2 ?_
                  refine zV_d3 ?_
                  rw [nI_1]
                  simp only [cB_run, if_pos c20, hq30, if_neg c48, if_pos c89] at ih
                  first | exact ih | contradiction
                · exact absurd (by decide) c110
              · exact absurd (by decide) c101
          · exact absurd (by decide) c67
        · refine zr_iconst (v := 1) hO dX0_passTick_51 (by decide) ?_
          refine zr_goto (tgt := 56) hO dX0_passTick_52 (by decide) ?_
          refine zr_istore_3 hO dX0_passTick_56 (by decide) rfl ?_
          refine zr_aload_0 hO dX0_passTick_57 ?_
          refine zr_getfr (c := 0) hO (by decide) (by decide) zf_X0_21 (zC_0 hM) rfl rfl dX0_passTick_58 ?_
          refine zr_iload_1 hO dX0_passTick_61 ?_
          refine zr_aload_0 hO dX0_passTick_62 ?_
          refine zV_pc (pc' := 63) rfl ?_
          refine zg_getfi0 (c := 0) hO (zC_0 hM) (by decide) (by decide) (by decide) zf_X0_69 rfl dX0_passTick_63 ?_
          refine zr_iload_3 hO dX0_passTick_66 ?_
          refine zr_if_eq (tgt := 77) hO dX0_passTick_67 (by decide) (fun c67 => ?_) (fun c67 => ?_)
          · exact absurd c67 (by decide)
          · refine zr_aload_2 hO dX0_passTick_70 ?_
            refine zg_getfi (c := 4) hO (zC_t hM hr30) (by have := hr30; unfold ztk; omega) (by decide) (by decide) zf_X0_85 rfl dX0_passTick_71 ?_
            refine zr_goto (tgt := 78) hO dX0_passTick_74 (by decide) ?_
            refine zr_V3 (D := d) hO hRm hL (by omega) (by decide) (c := 5) (by decide) (zC_3 hM) rfl rfl (e_X5_note (d := d - 1) htr hM (by omega)) zl_X0_178 zi_X5_note zs_X5_note zc_X5_note zn_X5 zd_X5_note (Nat.le_of_ble_eq_true rfl) dX0_passTick_78 (by omega) (by omega) ?_
            refine zr_iload_1 hO dX0_passTick_81 ?_
            refine zr_aload_0 hO dX0_passTick_82 ?_
            refine zr_getfr (c := 0) hO (by decide) (by decide) zf_X0_12 (zC_0 hM) rfl rfl dX0_passTick_83 ?_
            refine zV_pc (pc' := 86) rfl ?_
            refine zg_getfi (c := 2) hO (zC_1 hM) (by decide) (by decide) (by decide) zf_X0_182 rfl dX0_passTick_86 ?_
            refine zr_icmp_ge (tgt := 100) hO dX0_passTick_89 (by decide) (fun c89 => ?_) (fun c89 => ?_)
            · refine zr_iload_3 hO dX0_passTick_100 ?_
              refine zr_if_eq (tgt := 109) hO dX0_passTick_101 (by decide) (fun c101 => ?_) (fun c101 => ?_)
              · exact absurd c101 (by decide)
              · refine zr_aload_0 hO dX0_passTick_104 ?_
                refine zr_aload_2 hO dX0_passTick_105 ?_
                refine zr_V1 (D := d) hO hRm hL (by omega) (by decide) (c := 0) (by decide) (zC_0 hM) rfl rfl (e_X0_runTick (d := d - 1) htr hM (by omega) hr30) zl_X0_189 zi_X0_runTick zs_X0_runTick zc_X0_runTick zn_X0 zd_X0_runTick (Nat.le_of_ble_eq_true rfl) dX0_passTick_106 (by omega) (by omega) ?_
                refine zr_iload_3 hO dX0_passTick_109 ?_
                refine zr_if_eq (tgt := 125) hO dX0_passTick_110 (by decide) (fun c110 => ?_) (fun c110 => ?_)
                · exact absurd c110 (by decide)
                · refine zr_aload_2 hO dX0_passTick_113 ?_
                  refine zr_V0 (D := d) hO hRm hL (by omega) (by decide) (c := 4) (by decide) (zC_t hM hr30) rfl rfl (e_X4_isThrough (d := d - 1) htr hM (by omega) hr30) zl_X0_192 zi_X4_isThrough zs_X4_isThrough zc_X4_isThrough zn_X4 zd_X4_isThrough (Nat.le_of_ble_eq_true rfl) dX0_passTick_114 (by omega) (by omega) ?_
                  refine zr_ifb_eq (tgt := 125) hO dX0_passTick_117 (by decide) (fun c117 => ?_) (fun c117 => ?_)
                  · refine zr_iinc_1 (v := 1) hO dX0_passTick_125 (by decide) (by decide) rfl ?_
                    refine zr_goto (tgt := 18) hO dX0_passTick_128 (by decide) ?_
                    refine zV_d2 ?_
                    refine zV_d3 ?_
                    rw [nI_1]
                    simp only [cB_run, if_pos c20, hq30, if_pos c48, if_neg c89, if_neg (zif_f c117)] at ih
                    first | exact ih | contradiction
                  · refine zr_aload_0 hO dX0_passTick_120 ?_
                    refine zr_aload_2 hO dX0_passTick_121 ?_
                    refine zr_V1 (D := d) hO hRm hL (by omega) (by decide) (c := 0) (by decide) (zC_0 hM) rfl rfl (e_X0_finish (d := d - 1) htr hM (by omega) hr30) zl_X0_196 zi_X0_finish zs_X0_finish zc_X0_finish zn_X0 zd_X0_finish (Nat.le_of_ble_eq_true rfl) dX0_passTick_122 (by omega) (by omega) ?_
                    refine zr_iinc_1 (v := 1) hO dX0_passTick_125 (by decide) (by decide) rfl ?_
                    refine zr_goto (tgt := 18) hO dX0_passTick_128 (by decide) ?_
                    refine zV_d2 ?_
                    refine zV_d3 ?_
                    rw [nI_1]
                    simp only [cB_run, if_pos c20, hq30, if_pos c48, if_neg c89, if_pos c117] at ih
                    first | exact ih | contradiction
            · refine zr_aload_0 hO dX0_passTick_92 ?_
              refine zr_getfr (c := 0) hO (by decide) (by decide) zf_X0_21 (zC_0 hM) rfl rfl dX0_passTick_93 ?_
              refine zr_iload_3 hO dX0_passTick_96 ?_
              refine zr_V1 (D := d) hO hRm hL (by omega) (by decide) (c := 5) (by decide) (zC_3 hM) rfl rfl (e_X5_countOffer (d := d - 1) (b := true) htr hM (by omega)) zl_X0_185 zi_X5_countOffer zs_X5_countOffer zc_X5_countOffer zn_X5 zd_X5_countOffer (Nat.le_of_ble_eq_true rfl) dX0_passTick_97 (by omega) (by omega) ?_
              refine zr_iload_3 hO dX0_passTick_100 ?_
              refine zr_if_eq (tgt := 109) hO dX0_passTick_101 (by decide) (fun c101 => ?_) (fun c101 => ?_)
              · exact absurd c101 (by decide)
              · refine zr_aload_0 hO dX0_passTick_104 ?_
                refine zr_aload_2 hO dX0_passTick_105 ?_
                refine zr_V1 (D := d) hO hRm hL (by omega) (by decide) (c := 0) (by decide) (zC_0 hM) rfl rfl (e_X0_runTick (d := d - 1) htr hM (by omega) hr30) zl_X0_189 zi_X0_runTick zs_X0_runTick zc_X0_runTick zn_X0 zd_X0_runTick (Nat.le_of_ble_eq_true rfl) dX0_passTick_106 (by omega) (by omega) ?_
                refine zr_iload_3 hO dX0_passTick_109 ?_
                refine zr_if_eq (tgt := 125) hO dX0_passTick_110 (by decide) (fun c110 => ?_) (fun c110 => ?_)
                · exact absurd c110 (by decide)
                · refine zr_aload_2 hO dX0_passTick_113 ?_
                  refine zr_V0 (D := d) hO hRm hL (by omega) (by decide) (c := 4) (by decide) (zC_t hM hr30) rfl rfl (e_X4_isThrough (d := d - 1) htr hM (by omega) hr30) zl_X0_192 zi_X4_isThrough zs_X4_isThrough zc_X4_isThrough zn_X4 zd_X4_isThrough (Nat.le_of_ble_eq_true rfl) dX0_passTick_114 (by omega) (by omega) ?_
                  refine zr_ifb_eq (tgt := 125) hO dX0_passTick_117 (by decide) (fun c117 => ?_) (fun c117 => ?_)
                  · refine zr_iinc_1 (v := 1) hO dX0_passTick_125 (by decide) (by decide) rfl ?_
                    refine zr_goto (tgt := 18) hO dX0_passTick_128 (by decide) ?_
                    refine zV_d2 ?_
                    refine zV_d3 ?_
                    rw [nI_1]
                    simp only [cB_run, if_pos c20, hq30, if_pos c48, if_pos c89, if_neg (zif_f c117)] at ih
                    first | exact ih | contradiction
                  · refine zr_aload_0 hO dX0_passTick_120 ?_
                    refine zr_aload_2 hO dX0_passTick_121 ?_
                    refine zr_V1 (D := d) hO hRm hL (by omega) (by decide) (c := 0) (by decide) (zC_0 hM) rfl rfl (e_X0_finish (d := d - 1) htr hM (by omega) hr30) zl_X0_196 zi_X0_finish zs_X0_finish zc_X0_finish zn_X0 zd_X0_finish (Nat.le_of_ble_eq_true rfl) dX0_passTick_122 (by omega) (by omega) ?_
                    refine zr_iinc_1 (v := 1) hO dX0_passTick_125 (by decide) (by decide) rfl ?_
                    refine zr_goto (tgt := 18) hO dX0_passTick_128 (by decide) ?_
                    refine zV_d2 ?_
                    refine zV_d3 ?_
                    rw [nI_1]
                    simp only [cB_run, if_pos c20, hq30, if_pos c48, if_pos c89, if_pos c117] at ih
                    first | exact ih | contradiction
  · intro hIk
    refine zr_iload_1 hO dX0_passTick_18 ?_
    refine zr_iconst (v := 3) hO dX0_passTick_19 (by decide) ?_
    refine zr_icmp_ge (tgt := 131) hO dX0_passTick_20 (by decide) (fun c20 => ?_) (fun c20 => ?_)
    · refine zr_aload_0 hO dX0_passTick_131 ?_
      refine zr_V0 (D := d) hO hRm hL (by omega) (by decide) (c := 0) (by decide) (zC_0 hM) rfl rfl (e_X0_countWaits (d := d - 1) htr hM (by omega)) zl_X0_199 zi_X0_countWaits zs_X0_countWaits zc_X0_countWaits zn_X0 zd_X0_countWaits (Nat.le_of_ble_eq_true rfl) dX0_passTick_132 (by omega) (by omega) ?_
      refine zr_aload_0 hO dX0_passTick_135 ?_
      refine zr_dup hO dX0_passTick_136 rfl ?_
      refine zg_getfi0 (c := 0) hO (zC_0 hM) (by decide) (by decide) (by decide) zf_X0_69 rfl dX0_passTick_137 ?_
      refine zr_iconst (v := 1) hO dX0_passTick_140 (by decide) ?_
      refine zr_iadd hO dX0_passTick_141 ?_
      refine zV_pc (pc' := 142) rfl ?_
      refine zg_putfi0 (c := 0) hO (zC_0 hM) (by decide) (by decide) (by decide) zf_X0_69 rfl rfl dX0_passTick_142 ?_
      exact zr_return hO hE dX0_passTick_145 (zpl_v (by first | ((simp only [cF_tick, if_neg c20]) <;> rfl) | contradiction))
    · exact absurd c20 (zlt_F (x := 3) (by decide))
