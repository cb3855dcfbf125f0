set_option maxRecDepth 100000 in
set_option maxHeartbeats 4000000 in
theorem e_X0_beginPeriods {l : Launch} {G : zGm} {d n o : Nat} {ly : zLy} {τ : zTu} {σ M : zSg}  (htr : l.stackTraces = false) (hM : zC ly o) (hd : 1 ≤ d)  : zEv l G d 0 0 (yX0_beginPeriods, cX0_beginPeriods, 5, none) [.ref o] (fun x => n ≤ x) ly τ (zwr σ o 95 M) (zPl n ly τ (zwr σ o 95 (cF_begin M)) none) := by
  refine zEv_of (ls := [some (.ref o), none, none, none, none, none, none, none, none]) htr (by decide) (Nat.le_of_ble_eq_true rfl) rfl (fun X hO hE hN hRm hL hNm => ?_)
  have hO : zOk G X RX0 cX0_beginPeriods 5 := hO
  refine zr_aload_0 hO dX0_beginPeriods_0 ?_
  refine zr_getfr (c := 0) hO (by decide) (by decide) zf_X0_12 (zC_0 hM) rfl rfl dX0_beginPeriods_1 ?_
  refine zr_aload_0 hO dX0_beginPeriods_4 ?_
  refine zg_getfi0 (c := 0) hO (zC_0 hM) (by decide) (by decide) (by decide) zf_X0_69 rfl dX0_beginPeriods_5 ?_
  refine zr_aload_0 hO dX0_beginPeriods_8 ?_
  refine zr_getfr (c := 0) hO (by decide) (by decide) zf_X0_12 (zC_0 hM) rfl rfl dX0_beginPeriods_9 ?_
  refine zg_getfi (c := 2) hO (zC_1 hM) (by decide) (by decide) (by decide) zf_X0_202 rfl dX0_beginPeriods_12 ?_
  refine zV_pc (pc' := 15) rfl ?_
  refine zr_V2 (D := d) hO hRm hL (by omega) (by decide) (c := 2) (by decide) (zC_1 hM) rfl rfl (e_X2_begins (d := d - 1) htr hM (by omega)) zl_X0_205 zi_X2_begins zs_X2_begins zc_X2_begins zn_X2 zd_X2_begins (Nat.le_of_ble_eq_true rfl) dX0_beginPeriods_15 (by omega) (by omega) ?_
  refine zr_ifb_eq (tgt := 41) hO dX0_beginPeriods_18 (by decide) (fun c18 => ?_) (fun c18 => ?_)
  · refine zr_aload_0 hO dX0_beginPeriods_41 ?_
    refine zr_getfr (c := 0) hO (by decide) (by decide) zf_X0_12 (zC_0 hM) rfl rfl dX0_beginPeriods_42 ?_
    refine zg_getfi (c := 2) hO (zC_1 hM) (by decide) (by decide) (by decide) zf_X0_107 rfl dX0_beginPeriods_45 ?_
    refine zr_iconst (v := 1) hO dX0_beginPeriods_48 (by decide) ?_
    refine zr_icmp_ne (tgt := 105) hO dX0_beginPeriods_49 (by decide) (fun c49 => ?_) (fun c49 => ?_)
    · exact zr_return hO hE dX0_beginPeriods_105 (zpl_v (by first | ((simp only [cF_begin, if_neg (zif_f c18), if_neg c49]) <;> rfl) | contradiction))
    · refine zr_aload_0 hO dX0_beginPeriods_52 ?_
      refine zr_getfr (c := 0) hO (by decide) (by decide) zf_X0_12 (zC_0 hM) rfl rfl dX0_beginPeriods_53 ?_
      refine zr_aload_0 hO dX0_beginPeriods_56 ?_
      refine zg_getfi0 (c := 0) hO (zC_0 hM) (by decide) (by decide) (by decide) zf_X0_69 rfl dX0_beginPeriods_57 ?_
      refine zr_aload_0 hO dX0_beginPeriods_60 ?_
      refine zr_getfr (c := 0) hO (by decide) (by decide) zf_X0_12 (zC_0 hM) rfl rfl dX0_beginPeriods_61 ?_
      refine zg_getfi (c := 2) hO (zC_1 hM) (by decide) (by decide) (by decide) zf_X0_208 rfl dX0_beginPeriods_64 ?_
      refine zV_pc (pc' := 67) rfl ?_
      refine zr_V2 (D := d) hO hRm hL (by omega) (by decide) (c := 2) (by decide) (zC_1 hM) rfl rfl (e_X2_begins (d := d - 1) htr hM (by omega)) zl_X0_205 zi_X2_begins zs_X2_begins zc_X2_begins zn_X2 zd_X2_begins (Nat.le_of_ble_eq_true rfl) dX0_beginPeriods_67 (by omega) (by omega) ?_
      refine zr_ifb_eq (tgt := 105) hO dX0_beginPeriods_70 (by decide) (fun c70 => ?_) (fun c70 => ?_)
      · exact zr_return hO hE dX0_beginPeriods_105 (zpl_v (by first | ((simp only [cF_begin, if_neg (zif_f c18), if_pos c49, if_neg (zif_f c70)]) <;> rfl) | contradiction))
      · refine zr_aload_0 hO dX0_beginPeriods_73 ?_
        refine zr_getfr (c := 0) hO (by decide) (by decide) zf_X0_27 (zC_0 hM) rfl rfl dX0_beginPeriods_74 ?_
        refine zr_astore_1 hO dX0_beginPeriods_77 (by decide) rfl ?_
        refine zr_aload_1 hO dX0_beginPeriods_78 ?_
        refine zr_alenT (v := 16) hO (zC_8 hM) rfl dX0_beginPeriods_79 ?_
        refine zr_istore_2 hO dX0_beginPeriods_80 (by decide) rfl ?_
        refine zr_iconst (v := 0) hO dX0_beginPeriods_81 (by decide) ?_
        refine zV_pc (pc' := 82) rfl ?_
        refine zr_istore_3 hO dX0_beginPeriods_82 (by decide) rfl ?_
        refine z_for (P := fun k s => zV G X 5 0 0 (fun x => n ≤ x) ly τ (zwr σ o 95 s) 83 [some (.ref o), some (.ref (o + 8)), some (.int 16), some (.int (nI k)), none, none, none, none, none] []) 16 (fun k s => zup s (ztk k) 10 0) (fun _ _ => True) _ trivial (fun _ _ _ _ => trivial) ?_ ?_
        · intro k s hk hIk ih
          refine zr_iload_3 hO dX0_beginPeriods_83 ?_
          refine zr_iload_2 hO dX0_beginPeriods_84 ?_
          refine zr_icmp_ge (tgt := 105) hO dX0_beginPeriods_85 (by decide) (fun c85 => ?_) (fun c85 => ?_)
          · exact absurd (zlt_T (x := 16) (by decide) hk) c85
          · refine zr_aload_1 hO dX0_beginPeriods_88 ?_
            refine zr_iload_3 hO dX0_beginPeriods_89 ?_
            refine zr_aaldTN hO (zC_8 hM) hk dX0_beginPeriods_90 ?_
            refine zr_astore_4 hO dX0_beginPeriods_91 (by decide) rfl ?_
            refine zr_aload_4 hO dX0_beginPeriods_93 ?_
            refine zr_iconst (v := 0) hO dX0_beginPeriods_95 (by decide) ?_
            refine zg_putfi (c := 4) hO (zC_t hM hk) (by have := hk; unfold ztk; omega) (by decide) (by decide) zf_X0_129 rfl rfl dX0_beginPeriods_96 ?_
            refine zV_pc (pc' := 99) rfl ?_
            refine zr_iinc_3 (v := 1) hO dX0_beginPeriods_99 (by decide) (by decide) rfl ?_
            refine zr_goto (tgt := 83) hO dX0_beginPeriods_102 (by decide) ?_
            refine zV_d4 ?_
            rw [nI_1]
            exact ih
        · intro hIk
          refine zr_iload_3 hO dX0_beginPeriods_83 ?_
          refine zr_iload_2 hO dX0_beginPeriods_84 ?_
          refine zr_icmp_ge (tgt := 105) hO dX0_beginPeriods_85 (by decide) (fun c85 => ?_) (fun c85 => ?_)
          · exact zr_return hO hE dX0_beginPeriods_105 (zpl_v (by first | ((simp only [cF_begin, if_neg (zif_f c18), if_pos c49, if_pos c70, if_neg c85]) <;> rfl) | contradiction))
          · exact absurd c85 (zlt_F (x := 16) (by decide))
  · refine zr_iconst (v := 0) hO dX0_beginPeriods_21 (by decide) ?_
    refine zr_istore_1 hO dX0_beginPeriods_22 (by decide) rfl ?_
    refine z_for (P := fun k s => zV G X 5 0 0 (fun x => n ≤ x) ly τ (zwr σ o 95 s) 23 [some (.ref o), some (.int (nI k)), none, none, none, none, none, none, none] []) 4 (fun k s => zup s 9 k 0) (fun _ _ => True) M trivial (fun _ _ _ _ => trivial) ?_ ?_
    · intro k s hk hIk ih
      refine zr_iload_1 hO dX0_beginPeriods_23 ?_
      refine zr_iconst (v := 4) hO dX0_beginPeriods_24 (by decide) ?_
      refine zr_icmp_ge (tgt := 41) hO dX0_beginPeriods_25 (by decide) (fun c25 => ?_) (fun c25 => ?_)
      · exact absurd (zlt_T (x := 4) (by decide) hk) c25
      · refine zr_aload_0 hO dX0_beginPeriods_28 ?_
        refine zr_getfr (c := 0) hO (by decide) (by decide) zf_X0_31 (zC_0 hM) rfl rfl dX0_beginPeriods_29 ?_
        refine zr_iload_1 hO dX0_beginPeriods_32 ?_
        refine zr_iconst (v := 0) hO dX0_beginPeriods_33 (by decide) ?_
        refine zg_iastN hO (zC_9 hM) (by decide) hk (by decide) dX0_beginPeriods_34 ?_
        refine zr_iinc_1 (v := 1) hO dX0_beginPeriods_35 (by decide) (by decide) rfl ?_
        refine zr_goto (tgt := 23) hO dX0_beginPeriods_38 (by decide) ?_
        rw [nI_1]
        exact ih
    · intro hIk
      refine zr_iload_1 hO dX0_beginPeriods_23 ?_
      refine zr_iconst (v := 4) hO dX0_beginPeriods_24 (by decide) ?_
      refine zr_icmp_ge (tgt := 41) hO dX0_beginPeriods_25 (by decide) (fun c25 => ?_) (fun c25 => ?_)
      · refine zr_aload_0 hO dX0_beginPeriods_41 ?_
        refine zr_getfr (c := 0) hO (by decide) (by decide) zf_X0_12 (zC_0 hM) rfl rfl dX0_beginPeriods_42 ?_
        refine zg_getfi (c := 2) hO (zC_1 hM) (by decide) (by decide) (by decide) zf_X0_107 rfl dX0_beginPeriods_45 ?_
        refine zr_iconst (v := 1) hO dX0_beginPeriods_48 (by decide) ?_
        refine zr_icmp_ne (tgt := 105) hO dX0_beginPeriods_49 (by decide) (fun c49 => ?_) (fun c49 => ?_)
        · exact zr_return hO hE dX0_beginPeriods_105 (zpl_v (by first | ((simp only [cF_begin, if_pos c18, if_neg c25, if_neg c49]) <;> rfl) | contradiction))
        · refine zr_aload_0 hO dX0_beginPeriods_52 ?_
          refine zr_getfr (c := 0) hO (by decide) (by decide) zf_X0_12 (zC_0 hM) rfl rfl dX0_beginPeriods_53 ?_
          refine zr_aload_0 hO dX0_beginPeriods_56 ?_
          refine zg_getfi0 (c := 0) hO (zC_0 hM) (by decide) (by decide) (by decide) zf_X0_69 rfl dX0_beginPeriods_57 ?_
          refine zr_aload_0 hO dX0_beginPeriods_60 ?_
          refine zr_getfr (c := 0) hO (by decide) (by decide) zf_X0_12 (zC_0 hM) rfl rfl dX0_beginPeriods_61 ?_
          refine zg_getfi (c := 2) hO (zC_1 hM) (by decide) (by decide) (by decide) zf_X0_208 rfl dX0_beginPeriods_64 ?_
          refine zV_pc (pc' := 67) rfl ?_
          refine zr_V2 (D := d) hO hRm hL (by omega) (by decide) (c := 2) (by decide) (zC_1 hM) rfl rfl (e_X2_begins (d := d - 1) htr hM (by omega)) zl_X0_205 zi_X2_begins zs_X2_begins zc_X2_begins zn_X2 zd_X2_begins (Nat.le_of_ble_eq_true rfl) dX0_beginPeriods_67 (by omega) (by omega) ?_
          refine zr_ifb_eq (tgt := 105) hO dX0_beginPeriods_70 (by decide) (fun c70 => ?_) (fun c70 => ?_)
          · exact zr_return hO hE dX0_beginPeriods_105 (zpl_v (by first | ((simp only [cF_begin, if_pos c18, if_neg c25, if_pos c49, if_neg (zif_f c70)]) <;> rfl) | contradiction))
          · refine zr_aload_0 hO dX0_beginPeriods_73 ?_
            refine zr_getfr (c := 0) hO (by decide) (by decide) zf_X0_27 (zC_0 hM) rfl rfl dX0_beginPeriods_74 ?_
            refine zr_astore_1 hO dX0_beginPeriods_77 (by decide) rfl ?_
            refine zr_aload_1 hO dX0_beginPeriods_78 ?_
            refine zr_alenT (v := 16) hO (zC_8 hM) rfl dX0_beginPeriods_79 ?_
            refine zr_istore_2 hO dX0_beginPeriods_80 (by decide) rfl ?_
            refine zr_iconst (v := 0) hO dX0_beginPeriods_81 (by decide) ?_
            refine zV_pc (pc' := 82) rfl ?_
            refine zr_istore_3 hO dX0_beginPeriods_82 (by decide) rfl ?_
            refine z_for (P := fun k s => zV G X 5 0 0 (fun x => n ≤ x) ly τ (zwr σ o 95 s) 83 [some (.ref o), some (.ref (o + 8)), some (.int 16), some (.int (nI k)), none, none, none, none, none] []) 16 (fun k s => zup s (ztk k) 10 0) (fun _ _ => True) _ trivial (fun _ _ _ _ => trivial) ?_ ?_
            · intro k s hk hIk ih
              refine zr_iload_3 hO dX0_beginPeriods_83 ?_
              refine zr_iload_2 hO dX0_beginPeriods_84 ?_
              refine zr_icmp_ge (tgt := 105) hO dX0_beginPeriods_85 (by decide) (fun c85 => ?_) (fun c85 => ?_)
              · exact absurd (zlt_T (x := 16) (by decide) hk) c85
              · refine zr_aload_1 hO dX0_beginPeriods_88 ?_
                refine zr_iload_3 hO dX0_beginPeriods_89 ?_
                refine zr_aaldTN hO (zC_8 hM) hk dX0_beginPeriods_90 ?_
                refine zr_astore_4 hO dX0_beginPeriods_91 (by decide) rfl ?_
                refine zr_aload_4 hO dX0_beginPeriods_93 ?_
                refine zr_iconst (v := 0) hO dX0_beginPeriods_95 (by decide) ?_
                refine zg_putfi (c := 4) hO (zC_t hM hk) (by have := hk; unfold ztk; omega) (by decide) (by decide) zf_X0_129 rfl rfl dX0_beginPeriods_96 ?_
                refine zV_pc (pc' := 99) rfl ?_
                refine zr_iinc_3 (v := 1) hO dX0_beginPeriods_99 (by decide) (by decide) rfl ?_
                refine zr_goto (tgt := 83) hO dX0_beginPeriods_102 (by decide) ?_
                refine zV_d4 ?_
                rw [nI_1]
                exact ih
            · intro hIk
              refine zr_iload_3 hO dX0_beginPeriods_83 ?_
              refine zr_iload_2 hO dX0_beginPeriods_84 ?_
              refine zr_icmp_ge (tgt := 105) hO dX0_beginPeriods_85 (by decide) (fun c85 => ?_) (fun c85 => ?_)
              · exact zr_return hO hE dX0_beginPeriods_105 (zpl_v (by first | ((simp only [cF_begin, if_pos c18, if_neg c25, if_pos c49, if_pos c70, if_neg c85]) <;> rfl) | contradiction))
              · exact absurd c85 (zlt_F (x := 16) (by decide))
      · exact absurd c25 (zlt_F (x := 4) (by decide))
set_option maxRecDepth 100000 in
set_option maxHeartbeats 4000000 in
theorem e_X0_endTurns {l : Launch} {G : zGm} {d n o : Nat} {ly : zLy} {τ : zTu} {σ M : zSg}  (htr : l.stackTraces = false) (hM : zC ly o) (hd : 1 ≤ d)  : zEv l G d 0 0 (yX0_endTurns, cX0_endTurns, 3, none) [.ref o] (fun x => n ≤ x) ly τ (zwr σ o 95 M) (zPl n ly τ (zwr σ o 95 (cF_turns M)) none) := by
  refine zEv_of (ls := [some (.ref o), none, none, none, none, none, none, none, none]) htr (by decide) (Nat.le_of_ble_eq_true rfl) rfl (fun X hO hE hN hRm hL hNm => ?_)
  have hO : zOk G X RX0 cX0_endTurns 3 := hO
  refine zr_iconst (v := 0) hO dX0_endTurns_0 (by decide) ?_
  refine zr_istore_1 hO dX0_endTurns_1 (by decide) rfl ?_
  refine z_for (P := fun k s => zV G X 3 0 0 (fun x => n ≤ x) ly τ (zwr σ o 95 s) 2 [some (.ref o), some (.int (nI k)), none, none, none, none, none, none, none] []) 3 cB_turn (fun _ _ => True) M trivial (fun _ _ _ _ => trivial) ?_ ?_
  · intro k s hk hIk ih
    refine zr_iload_1 hO dX0_endTurns_2 ?_
    refine zr_iconst (v := 3) hO dX0_endTurns_3 (by decide) ?_
    refine zr_icmp_ge (tgt := 87) hO dX0_endTurns_4 (by decide) (fun c4 => ?_) (fun c4 => ?_)
    · exact absurd (zlt_T (x := 3) (by decide) hk) c4
    · refine zr_aload_0 hO dX0_endTurns_7 ?_
      refine zr_aload_0 hO dX0_endTurns_8 ?_
      refine zr_getfr (c := 0) hO (by decide) (by decide) zf_X0_41 (zC_0 hM) rfl rfl dX0_endTurns_9 ?_
      refine zr_iload_1 hO dX0_endTurns_12 ?_
      refine zg_ialdN hO (zC_12 hM) (by decide) hk (by decide) dX0_endTurns_13 ?_
      refine zr_V1 (D := d) hO hRm hL (by omega) (by decide) (c := 0) (by decide) (zC_0 hM) rfl rfl (e_X0_taskAt (d := d - 1) htr hM (by omega)) zl_X0_103 zi_X0_taskAt zs_X0_taskAt zc_X0_taskAt zn_X0 zd_X0_taskAt (Nat.le_of_ble_eq_true rfl) dX0_endTurns_14 (by omega) (by omega) ?_
      generalize hq14 : cF_at _ = r14
      rcases r14 with _ | r14
      · refine zr_nstore_2 hO dX0_endTurns_17 (by decide) rfl ?_
        refine zr_nload_2 hO dX0_endTurns_18 ?_
        refine zr_ifnullN (tgt := 81) hO dX0_endTurns_19 (by decide) ?_
        refine zr_iinc_1 (v := 1) hO dX0_endTurns_81 (by decide) (by decide) rfl ?_
        refine zr_goto (tgt := 2) hO dX0_endTurns_84 (by decide) ?_
        refine zV_d2 ?_
        rw [nI_1]
        simp only [cB_turn, if_pos c4, hq14] at ih
        first | exact ih | contradiction
      · have hr14 : r14 < 16 := cF_at_lt hq14
        refine zr_astore_2 hO dX0_endTurns_17 (by decide) rfl ?_
        refine zr_aload_2 hO dX0_endTurns_18 ?_
        refine zr_ifnull hO dX0_endTurns_19 ?_
        refine zr_aload_0 hO dX0_endTurns_22 ?_
        refine zr_getfr (c := 0) hO (by decide) (by decide) zf_X0_12 (zC_0 hM) rfl rfl dX0_endTurns_23 ?_
        refine zr_aload_2 hO dX0_endTurns_26 ?_
        refine zg_getfi (c := 4) hO (zC_t hM hr14) (by have := hr14; unfold ztk; omega) (by decide) (by decide) zf_X0_129 rfl dX0_endTurns_27 ?_
        refine zV_pc (pc' := 30) rfl ?_
        refine zr_aload_2 hO dX0_endTurns_30 ?_
        refine zg_getfi (c := 4) hO (zC_t hM hr14) (by have := hr14; unfold ztk; omega) (by decide) (by decide) zf_X0_211 rfl dX0_endTurns_31 ?_
        refine zr_V2 (D := d) hO hRm hL (by omega) (by decide) (c := 2) (by decide) (zC_1 hM) rfl rfl (e_X2_endsTurn (d := d - 1) htr hM (by omega)) zl_X0_214 zi_X2_endsTurn zs_X2_endsTurn zc_X2_endsTurn zn_X2 zd_X2_endsTurn (Nat.le_of_ble_eq_true rfl) dX0_endTurns_34 (by omega) (by omega) ?_
        refine zr_ifb_eq (tgt := 81) hO dX0_endTurns_37 (by decide) (fun c37 => ?_) (fun c37 => ?_)
        · refine zr_iinc_1 (v := 1) hO dX0_endTurns_81 (by decide) (by decide) rfl ?_
          refine zr_goto (tgt := 2) hO dX0_endTurns_84 (by decide) ?_
          refine zV_d2 ?_
          rw [nI_1]
          simp only [cB_turn, if_pos c4, hq14, if_neg (zif_f c37)] at ih
          first | exact ih | contradiction
        · refine zr_aload_0 hO dX0_endTurns_40 ?_
          refine zr_getfr (c := 0) hO (by decide) (by decide) zf_X0_41 (zC_0 hM) rfl rfl dX0_endTurns_41 ?_
          refine zr_iload_1 hO dX0_endTurns_44 ?_
          refine zr_iconst (v := (-1)) hO dX0_endTurns_45 (by decide) ?_
          refine zg_iastN hO (zC_12 hM) (by decide) hk (by decide) dX0_endTurns_46 ?_
          refine zr_aload_0 hO dX0_endTurns_47 ?_
          refine zr_aload_2 hO dX0_endTurns_48 ?_
          refine zV_pc (pc' := 49) rfl ?_
          refine zr_V1 (D := d) hO hRm hL (by omega) (by decide) (c := 0) (by decide) (zC_0 hM) rfl rfl (e_X0_makeReady (d := d - 1) htr hM (by omega) hr14) zl_X0_123 zi_X0_makeReady zs_X0_makeReady zc_X0_makeReady zn_X0 zd_X0_makeReady (Nat.le_of_ble_eq_true rfl) dX0_endTurns_49 (by omega) (by omega) ?_
          refine zr_aload_0 hO dX0_endTurns_52 ?_
          refine zr_getfr (c := 0) hO (by decide) (by decide) zf_X0_12 (zC_0 hM) rfl rfl dX0_endTurns_53 ?_
          refine zg_getfi (c := 2) hO (zC_1 hM) (by decide) (by decide) (by decide) zf_X0_107 rfl dX0_endTurns_56 ?_
          refine zr_iconst (v := 1) hO dX0_endTurns_59 (by decide) ?_
          refine zr_icmp_ne (tgt := 81) hO dX0_endTurns_60 (by decide) (fun c60 => ?_) (fun c60 => ?_)
          · refine zr_iinc_1 (v := 1) hO dX0_endTurns_81 (by decide) (by decide) rfl ?_
            refine zr_goto (tgt := 2) hO dX0_endTurns_84 (by decide) ?_
            refine zV_d2 ?_
            rw [nI_1]
            simp only [cB_turn, if_pos c4, hq14, if_pos c37, if_neg c60] at ih
            first | exact ih | contradiction
          · refine zr_aload_2 hO dX0_endTurns_63 ?_
            refine zg_getfi (c := 4) hO (zC_t hM hr14) (by have := hr14; unfold ztk; omega) (by decide) (by decide) zf_X0_129 rfl dX0_endTurns_64 ?_
            refine zr_iconst (v := 3) hO dX0_endTurns_67 (by decide) ?_
            refine zr_icmp_ge (tgt := 81) hO dX0_endTurns_68 (by decide) (fun c68 => ?_) (fun c68 => ?_)
            · refine zr_iinc_1 (v := 1) hO dX0_endTurns_81 (by decide) (by decide) rfl ?_
              refine zr_goto (tgt := 2) hO dX0_endTurns_84 (by decide) ?_
              refine zV_d2 ?_
              rw [nI_1]
              simp only [cB_turn, if_pos c4, hq14, if_pos c37, if_pos c60, if_neg c68] at ih
              first | exact ih | contradiction
            · refine zr_aload_2 hO dX0_endTurns_71 ?_
              refine zr_dup hO dX0_endTurns_72 rfl ?_
              refine zg_getfi (c := 4) hO (zC_t hM hr14) (by have := hr14; unfold ztk; omega) (by decide) (by decide) zf_X0_129 rfl dX0_endTurns_73 ?_
              refine zr_iconst (v := 1) hO dX0_endTurns_76 (by decide) ?_
              refine zr_iadd hO dX0_endTurns_77 ?_
              refine zg_putfi (c := 4) hO (zC_t hM hr14) (by have := hr14; unfold ztk; omega) (by decide) (by decide) zf_X0_129 rfl rfl dX0_endTurns_78 ?_
              refine zr_iinc_1 (v := 1) hO dX0_endTurns_81 (by decide) (by decide) rfl ?_
              refine zV_pc (pc' := 84) rfl ?_
              refine zr_goto (tgt := 2) hO dX0_endTurns_84 (by decide) ?_
              refine zV_d2 ?_
              rw [nI_1]
              simp only [cB_turn, if_pos c4, hq14, if_pos c37, if_pos c60, if_pos c68] at ih
              first | exact ih | contradiction
  · intro hIk
    refine zr_iload_1 hO dX0_endTurns_2 ?_
    refine zr_iconst (v := 3) hO dX0_endTurns_3 (by decide) ?_
    refine zr_icmp_ge (tgt := 87) hO dX0_endTurns_4 (by decide) (fun c4 => ?_) (fun c4 => ?_)
    · exact zr_return hO hE dX0_endTurns_87 (zpl_v (by first | ((simp only [cF_turns, if_neg c4]) <;> rfl) | contradiction))
    · exact absurd c4 (zlt_F (x := 3) (by decide))
set_option maxRecDepth 100000 in
set_option maxHeartbeats 4000000 in
theorem e_X0_giveSignal {l : Launch} {G : zGm} {d n o : Nat} {ly : zLy} {τ : zTu} {σ M : zSg} {q : Int32} (htr : l.stackTraces = false) (hM : zC ly o) (hd : 2 ≤ d)  : zEv l G d 0 0 (yX0_giveSignal, cX0_giveSignal, 7, none) [.ref o, .int q] (fun x => n ≤ x) ly τ (zwr σ o 95 M) (zPl n ly τ (zwr σ o 95 (cF_signal M q)) none) := by
  refine zEv_of (ls := [some (.ref o), some (.int q), none, none, none, none, none, none, none]) htr (by decide) (Nat.le_of_ble_eq_true rfl) rfl (fun X hO hE hN hRm hL hNm => ?_)
  have hO : zOk G X RX0 cX0_giveSignal 7 := hO
  refine zr_iload_1 hO dX0_giveSignal_0 ?_
  refine zr_if_lt (tgt := 10) hO dX0_giveSignal_1 (by decide) (fun c1 => ?_) (fun c1 => ?_)
  · exact zr_return hO hE dX0_giveSignal_10 (zpl_v (by first | ((simp only [cF_signal, if_pos c1]) <;> rfl) | contradiction))
  · refine zr_iload_1 hO dX0_giveSignal_4 ?_
    refine zr_bipush (v := 6) hO dX0_giveSignal_5 (by decide) ?_
    refine zr_icmp_lt (tgt := 11) hO dX0_giveSignal_7 (by decide) (fun c7 => ?_) (fun c7 => ?_)
    · refine zr_null hO dX0_giveSignal_11 ?_
      refine zr_nstore_2 hO dX0_giveSignal_12 (by decide) rfl ?_
      refine zr_aload_0 hO dX0_giveSignal_13 ?_
      refine zr_getfr (c := 0) hO (by decide) (by decide) zf_X0_27 (zC_0 hM) rfl rfl dX0_giveSignal_14 ?_
      refine zr_astore_3 hO dX0_giveSignal_17 (by decide) rfl ?_
      refine zr_aload_3 hO dX0_giveSignal_18 ?_
      refine zr_alenT (v := 16) hO (zC_8 hM) rfl dX0_giveSignal_19 ?_
      refine zV_pc (pc' := 20) rfl ?_
      refine zr_istore_4 hO dX0_giveSignal_20 (by decide) rfl ?_
      refine zr_iconst (v := 0) hO dX0_giveSignal_22 (by decide) ?_
      refine zr_istore_5 hO dX0_giveSignal_23 (by decide) rfl ?_
      refine z_for (P := fun k s => zV G X 7 0 0 (fun x => n ≤ x) ly τ (zwr σ o 95 M) 25 [some (.ref o), some (.int q), some (zov o s), some (.ref (o + 8)), some (.int 16), some (.int (nI k)), none, none, none] []) 16 (cB_sig M q) (fun _ s => zoI s) none zoI_n (fun i s hi hs => zoI_sig1 M q hi hs) ?_ ?_
      · intro k s hk hIk ih
        refine zr_iload_5 hO dX0_giveSignal_25 ?_
        refine zr_iload_4 hO dX0_giveSignal_27 ?_
        refine zr_icmp_ge (tgt := 73) hO dX0_giveSignal_29 (by decide) (fun c29 => ?_) (fun c29 => ?_)
        · exact absurd (zlt_T (x := 16) (by decide) hk) c29
        · refine zr_aload_3 hO dX0_giveSignal_32 ?_
          refine zr_iload_5 hO dX0_giveSignal_33 ?_
          refine zr_aaldTN hO (zC_8 hM) hk dX0_giveSignal_35 ?_
          refine zr_astore_6 hO dX0_giveSignal_36 (by decide) rfl ?_
          refine zr_aload_6 hO dX0_giveSignal_38 ?_
          refine zr_iconst (v := 5) hO dX0_giveSignal_40 (by decide) ?_
          refine zr_iload_1 hO dX0_giveSignal_41 ?_
          refine zV_pc (pc' := 42) rfl ?_
          refine zr_V2 (D := d) hO hRm hL (by omega) (by decide) (c := 4) (by decide) (zC_t hM hk) rfl rfl (e_X4_waitsAt (d := d - 1) htr hM (by omega) hk) zl_X0_88 zi_X4_waitsAt zs_X4_waitsAt zc_X4_waitsAt zn_X4 zd_X4_waitsAt (Nat.le_of_ble_eq_true rfl) dX0_giveSignal_42 (by omega) (by omega) ?_
          refine zr_ifb_eq (tgt := 67) hO dX0_giveSignal_45 (by decide) (fun c45 => ?_) (fun c45 => ?_)
          · refine zr_iinc_5 (v := 1) hO dX0_giveSignal_67 (by decide) (by decide) rfl ?_
            refine zr_goto (tgt := 25) hO dX0_giveSignal_70 (by decide) ?_
            refine zV_d6 ?_
            rw [nI_1]
            simp only [cB_sig, if_pos c29, if_neg (zif_f c45)] at ih
            first | exact ih | contradiction
          · rcases s with _ | sj
            · refine zr_nload_2 hO dX0_giveSignal_48 ?_
              refine zr_ifnullN (tgt := 64) hO dX0_giveSignal_49 (by decide) ?_
              refine zr_aload_6 hO dX0_giveSignal_64 ?_
              refine zr_astore_2 hO dX0_giveSignal_66 (by decide) rfl ?_
              refine zr_iinc_5 (v := 1) hO dX0_giveSignal_67 (by decide) (by decide) rfl ?_
              refine zr_goto (tgt := 25) hO dX0_giveSignal_70 (by decide) ?_
              refine zV_d6 ?_
              rw [nI_1]
              simp only [cB_sig, if_pos c29, if_pos c45] at ih
              first | exact ih | contradiction
            · have hsj : sj < 16 := hIk _ rfl
              refine zr_aload_2 hO dX0_giveSignal_48 ?_
              refine zr_ifnull hO dX0_giveSignal_49 ?_
              refine zr_aload_6 hO dX0_giveSignal_52 ?_
              refine zg_getfi (c := 4) hO (zC_t hM hk) (by have := hk; unfold ztk; omega) (by decide) (by decide) zf_X0_160 rfl dX0_giveSignal_54 ?_
              refine zr_aload_2 hO dX0_giveSignal_57 ?_
              refine zg_getfi (c := 4) hO (zC_t hM hsj) (by have := hsj; unfold ztk; omega) (by decide) (by decide) zf_X0_160 rfl dX0_giveSignal_58 ?_
              refine zr_icmp_ge (tgt := 67) hO dX0_giveSignal_61 (by decide) (fun c61 => ?_) (fun c61 => ?_)
              · refine zr_iinc_5 (v := 1) hO dX0_giveSignal_67 (by decide) (by decide) rfl ?_
                refine zr_goto (tgt := 25) hO dX0_giveSignal_70 (by decide) ?_
                refine zV_d6 ?_
                rw [nI_1]
                simp only [cB_sig, if_pos c29, if_pos c45, if_neg c61] at ih
                first | exact ih | contradiction
              · refine zr_aload_6 hO dX0_giveSignal_64 ?_
                refine zr_astore_2 hO dX0_giveSignal_66 (by decide) rfl ?_
                refine zr_iinc_5 (v := 1) hO dX0_giveSignal_67 (by decide) (by decide) rfl ?_
                refine zr_goto (tgt := 25) hO dX0_giveSignal_70 (by decide) ?_
                refine zV_d6 ?_
                rw [nI_1]
                simp only [cB_sig, if_pos c29, if_pos c45, if_pos c61] at ih
                first | exact ih | contradiction
      · intro hIk
        generalize hf9 : (List.range 16).foldl (fun s i => cB_sig M q i s) none = r9 at hIk ⊢
        replace hf9 : cF_sig M q = r9 := hf9
        refine zr_iload_5 hO dX0_giveSignal_25 ?_
        refine zr_iload_4 hO dX0_giveSignal_27 ?_
        refine zr_icmp_ge (tgt := 73) hO dX0_giveSignal_29 (by decide) (fun c29 => ?_) (fun c29 => ?_)
        · rcases r9 with _ | r9j
          · refine zr_nload_2 hO dX0_giveSignal_73 ?_
            refine zr_ifnullN (tgt := 95) hO dX0_giveSignal_74 (by decide) ?_
            refine zr_aload_0 hO dX0_giveSignal_95 ?_
            refine zr_getfr (c := 0) hO (by decide) (by decide) zf_X0_38 (zC_0 hM) rfl rfl dX0_giveSignal_96 ?_
            refine zr_iload_1 hO dX0_giveSignal_99 ?_
            refine zg_iald hO (zC_11 hM) (by decide) (by first | assumption | exact zin_c (by assumption) (by assumption) rfl) dX0_giveSignal_100 ?_
            refine zr_bipush (v := 99) hO dX0_giveSignal_101 (by decide) ?_
            refine zV_pc (pc' := 103) rfl ?_
            refine zr_icmp_ge (tgt := 116) hO dX0_giveSignal_103 (by decide) (fun c103 => ?_) (fun c103 => ?_)
            · exact zr_return hO hE dX0_giveSignal_116 (zpl_v (by first | ((simp only [cF_signal, if_neg c1, if_pos c7, hf9, if_neg c29, if_neg c103]) <;> rfl) | contradiction))
            · refine zr_aload_0 hO dX0_giveSignal_106 ?_
              refine zr_getfr (c := 0) hO (by decide) (by decide) zf_X0_38 (zC_0 hM) rfl rfl dX0_giveSignal_107 ?_
              refine zr_iload_1 hO dX0_giveSignal_110 ?_
              refine zr_dup2 hO dX0_giveSignal_111 rfl rfl ?_
              refine zg_iald hO (zC_11 hM) (by decide) (by first | assumption | exact zin_c (by assumption) (by assumption) rfl) dX0_giveSignal_112 ?_
              refine zr_iconst (v := 1) hO dX0_giveSignal_113 (by decide) ?_
              refine zr_iadd hO dX0_giveSignal_114 ?_
              refine zV_pc (pc' := 115) rfl ?_
              refine zg_iast hO (zC_11 hM) (by decide) (by first | assumption | exact zin_c (by assumption) (by assumption) rfl) dX0_giveSignal_115 ?_
              exact zr_return hO hE dX0_giveSignal_116 (zpl_v (by first | ((simp only [cF_signal, if_neg c1, if_pos c7, hf9, if_neg c29, if_pos c103]) <;> rfl) | contradiction))
          · have hr9j : r9j < 16 := hIk _ rfl
            refine zr_aload_2 hO dX0_giveSignal_73 ?_
            refine zr_ifnull hO dX0_giveSignal_74 ?_
            refine zr_aload_2 hO dX0_giveSignal_77 ?_
            refine zr_dup hO dX0_giveSignal_78 rfl ?_
            refine zg_getfi (c := 4) hO (zC_t hM hr9j) (by have := hr9j; unfold ztk; omega) (by decide) (by decide) zf_X0_154 rfl dX0_giveSignal_79 ?_
            refine zr_iconst (v := 1) hO dX0_giveSignal_82 (by decide) ?_
            refine zr_iadd hO dX0_giveSignal_83 ?_
            refine zV_pc (pc' := 84) rfl ?_
            refine zg_putfi (c := 4) hO (zC_t hM hr9j) (by have := hr9j; unfold ztk; omega) (by decide) (by decide) zf_X0_154 rfl rfl dX0_giveSignal_84 ?_
            refine zr_aload_0 hO dX0_giveSignal_87 ?_
            refine zr_aload_2 hO dX0_giveSignal_88 ?_
            refine zr_V1 (D := d) hO hRm hL (by omega) (by decide) (c := 0) (by decide) (zC_0 hM) rfl rfl (e_X0_wake (d := d - 1) htr hM (by omega) hr9j) zl_X0_157 zi_X0_wake zs_X0_wake zc_X0_wake zn_X0 zd_X0_wake (Nat.le_of_ble_eq_true rfl) dX0_giveSignal_89 (by omega) (by omega) ?_
            refine zr_goto (tgt := 116) hO dX0_giveSignal_92 (by decide) ?_
            exact zr_return hO hE dX0_giveSignal_116 (zpl_v (by first | ((simp only [cF_signal, if_neg c1, if_pos c7, hf9, if_neg c29]) <;> rfl) | contradiction))
        · exact absurd c29 (zlt_F (x := 16) (by decide))
    · exact zr_return hO hE dX0_giveSignal_10 (zpl_v (by first | ((simp only [cF_signal, if_neg c1, if_neg c7]) <;> rfl) | contradiction))
set_option maxRecDepth 100000 in
set_option maxHeartbeats 4000000 in
theorem e_X0_firstOf {l : Launch} {G : zGm} {d n o : Nat} {ly : zLy} {τ : zTu} {σ M : zSg} {w : Int32} (htr : l.stackTraces = false) (hM : zC ly o) (hd : 1 ≤ d)  : zEv l G d 0 0 (yX0_firstOf, cX0_firstOf, 8, some (.object "BeadleKernel$Task")) [.ref o, .int w] (fun x => n ≤ x) ly τ (zwr σ o 95 M) (zPl n ly τ (zwr σ o 95 M) (some (zov o (cF_first M w)))) := by
  refine zEv_of (ls := [some (.ref o), some (.int w), none, none, none, none, none, none, none]) htr (by decide) (Nat.le_of_ble_eq_true rfl) rfl (fun X hO hE hN hRm hL hNm => ?_)
  have hO : zOk G X RX0 cX0_firstOf 8 := hO
  refine zr_null hO dX0_firstOf_0 ?_
  refine zr_nstore_2 hO dX0_firstOf_1 (by decide) rfl ?_
  refine zr_aload_0 hO dX0_firstOf_2 ?_
  refine zr_getfr (c := 0) hO (by decide) (by decide) zf_X0_27 (zC_0 hM) rfl rfl dX0_firstOf_3 ?_
  refine zr_astore_3 hO dX0_firstOf_6 (by decide) rfl ?_
  refine zr_aload_3 hO dX0_firstOf_7 ?_
  refine zr_alenT (v := 16) hO (zC_8 hM) rfl dX0_firstOf_8 ?_
  refine zV_pc (pc' := 9) rfl ?_
  refine zr_istore_4 hO dX0_firstOf_9 (by decide) rfl ?_
  refine zr_iconst (v := 0) hO dX0_firstOf_11 (by decide) ?_
  refine zr_istore_5 hO dX0_firstOf_12 (by decide) rfl ?_
  refine z_for (P := fun k s => zV G X 8 0 0 (fun x => n ≤ x) ly τ (zwr σ o 95 M) 14 [some (.ref o), some (.int w), some (zov o s), some (.ref (o + 8)), some (.int 16), some (.int (nI k)), none, none, none] []) 16 (cB_first M w) (fun _ s => zoI s) none zoI_n (fun i s hi hs => zoI_first1 M w hi hs) ?_ ?_
  · intro k s hk hIk ih
    refine zr_iload_5 hO dX0_firstOf_14 ?_
    refine zr_iload_4 hO dX0_firstOf_16 ?_
    refine zr_icmp_ge (tgt := 73) hO dX0_firstOf_18 (by decide) (fun c18 => ?_) (fun c18 => ?_)
    · exact absurd (zlt_T (x := 16) (by decide) hk) c18
    · refine zr_aload_3 hO dX0_firstOf_21 ?_
      refine zr_iload_5 hO dX0_firstOf_22 ?_
      refine zr_aaldTN hO (zC_8 hM) hk dX0_firstOf_24 ?_
      refine zr_astore_6 hO dX0_firstOf_25 (by decide) rfl ?_
      refine zr_iload_1 hO dX0_firstOf_27 ?_
      refine zr_iconst (v := 1) hO dX0_firstOf_28 (by decide) ?_
      refine zr_aload_6 hO dX0_firstOf_29 ?_
      refine zV_pc (pc' := 31) rfl ?_
      refine zg_getfi (c := 4) hO (zC_t hM hk) (by have := hk; unfold ztk; omega) (by decide) (by decide) zf_X0_85 rfl dX0_firstOf_31 ?_
      refine zr_ishl hO dX0_firstOf_34 ?_
      refine zr_iand hO dX0_firstOf_35 ?_
      refine zr_if_eq (tgt := 43) hO dX0_firstOf_36 (by decide) (fun c36 => ?_) (fun c36 => ?_)
      · refine zr_iconst (v := 0) hO dX0_firstOf_43 (by decide) ?_
        refine zr_istore_7 hO dX0_firstOf_44 (by decide) rfl ?_
        refine zr_iload_7 hO dX0_firstOf_46 ?_
        refine zr_if_eq (tgt := 67) hO dX0_firstOf_48 (by decide) (fun c48 => ?_) (fun c48 => ?_)
        · refine zr_iinc_5 (v := 1) hO dX0_firstOf_67 (by decide) (by decide) rfl ?_
          refine zr_goto (tgt := 14) hO dX0_firstOf_70 (by decide) ?_
          refine zV_d6 ?_
          refine zV_d7 ?_
          rw [nI_1]
          simp only [cB_first, if_pos c18, if_pos c36] at ih
          first | exact ih | contradiction
        · exact absurd (by decide) c48
      · refine zr_iconst (v := 1) hO dX0_firstOf_39 (by decide) ?_
        refine zr_goto (tgt := 44) hO dX0_firstOf_40 (by decide) ?_
        refine zr_istore_7 hO dX0_firstOf_44 (by decide) rfl ?_
        refine zr_iload_7 hO dX0_firstOf_46 ?_
        refine zr_if_eq (tgt := 67) hO dX0_firstOf_48 (by decide) (fun c48 => ?_) (fun c48 => ?_)
        · exact absurd c48 (by decide)
        · rcases s with _ | sj
          · refine zr_nload_2 hO dX0_firstOf_51 ?_
            refine zr_ifnullN (tgt := 64) hO dX0_firstOf_52 (by decide) ?_
            refine zr_aload_6 hO dX0_firstOf_64 ?_
            refine zr_astore_2 hO dX0_firstOf_66 (by decide) rfl ?_
            refine zr_iinc_5 (v := 1) hO dX0_firstOf_67 (by decide) (by decide) rfl ?_
            refine zr_goto (tgt := 14) hO dX0_firstOf_70 (by decide) ?_
            refine zV_d6 ?_
            refine zV_d7 ?_
            rw [nI_1]
            simp only [cB_first, if_pos c18, if_neg c36] at ih
            first | exact ih | contradiction
          · have hsj : sj < 16 := hIk _ rfl
            refine zr_aload_2 hO dX0_firstOf_51 ?_
            refine zr_ifnull hO dX0_firstOf_52 ?_
            refine zr_aload_6 hO dX0_firstOf_55 ?_
            refine zr_aload_2 hO dX0_firstOf_57 ?_
            refine zr_V1 (D := d) hO hRm hL (by omega) (by decide) (c := 4) (by decide) (zC_t hM hk) rfl rfl (e_X4_comesAhead (d := d - 1) htr hM (by omega) hk hsj) zl_X0_241 zi_X4_comesAhead zs_X4_comesAhead zc_X4_comesAhead zn_X4 zd_X4_comesAhead (Nat.le_of_ble_eq_true rfl) dX0_firstOf_58 (by omega) (by omega) ?_
            refine zr_ifb_eq (tgt := 67) hO dX0_firstOf_61 (by decide) (fun c61 => ?_) (fun c61 => ?_)
            · refine zr_iinc_5 (v := 1) hO dX0_firstOf_67 (by decide) (by decide) rfl ?_
              refine zr_goto (tgt := 14) hO dX0_firstOf_70 (by decide) ?_
              refine zV_d6 ?_
              refine zV_d7 ?_
              rw [nI_1]
              simp only [cB_first, if_pos c18, if_neg c36, if_neg (zif_f c61)] at ih
              first | exact ih | contradiction
            · refine zr_aload_6 hO dX0_firstOf_64 ?_
              refine zr_astore_2 hO dX0_firstOf_66 (by decide) rfl ?_
              refine zr_iinc_5 (v := 1) hO dX0_firstOf_67 (by decide) (by decide) rfl ?_
              refine zr_goto (tgt := 14) hO dX0_firstOf_70 (by decide) ?_
              refine zV_d6 ?_
              refine zV_d7 ?_
              rw [nI_1]
              simp only [cB_first, if_pos c18, if_neg c36, if_pos c61] at ih
              first | exact ih | contradiction
  · intro hIk
    generalize hf9 : (List.range 16).foldl (fun s i => cB_first M w i s) none = r9 at hIk ⊢
    replace hf9 : cF_first M w = r9 := hf9
    rw [hf9] at hE
    refine zr_iload_5 hO dX0_firstOf_14 ?_
    refine zr_iload_4 hO dX0_firstOf_16 ?_
    refine zr_icmp_ge (tgt := 73) hO dX0_firstOf_18 (by decide) (fun c18 => ?_) (fun c18 => ?_)
    · rcases r9 with _ | r9j
      · refine zr_nload_2 hO dX0_firstOf_73 ?_
        exact zr_areturnN hO hE dX0_firstOf_74 (zpl_r (fun _ hz9 => hz9) rfl)
      · have hr9j : r9j < 16 := hIk _ rfl
        refine zr_aload_2 hO dX0_firstOf_73 ?_
        exact zr_areturn hO hE dX0_firstOf_74 (zpl_r (fun _ hz9 => hz9) rfl)
    · exact absurd c18 (zlt_F (x := 16) (by decide))
