set_option maxRecDepth 100000 in
set_option maxHeartbeats 400000 in
theorem e_X0_shareProcessors {l : Launch} {G : zGm} {d n o : Nat} {ly : zLy} {τ : zTu} {σ M : zSg}  (htr : l.stackTraces = false) (hM : zC ly o) (hd : 3 ≤ d)  : zEv l G d 0 0 (yX0_shareProcessors, cX0_shareProcessors, 4, none) [.ref o] (fun x => n ≤ x) ly τ (zwr σ o 95 M) (zPl n ly τ (zwr σ o 95 (cF_share M)) none) := by
  refine zEv_of (ls := [some (.ref o), none, none, none, none, none, none, none, none]) htr (by decide) (Nat.le_of_ble_eq_true rfl) rfl (fun X hO hE hN hRm hL hNm => ?_)
  have hO : zOk G X RX0 cX0_shareProcessors 4 := hO
  have hc3 := cF_takes_le (cF_lent M)
  refine zr_aload_0 hO dX0_shareProcessors_0 ?_
  refine zr_V0 (D := d) hO hRm hL (by omega) (by decide) (c := 0) (by decide) (zC_0 hM) rfl rfl (e_X0_findLentKeys (d := d - 1) htr hM (by omega)) zl_X0_148 zi_X0_findLentKeys zs_X0_findLentKeys zc_X0_findLentKeys zn_X0 zd_X0_findLentKeys (Nat.le_of_ble_eq_true rfl) dX0_shareProcessors_1 (by omega) (by omega) ?_
  refine zr_aload_0 hO dX0_shareProcessors_4 ?_
  refine zr_V0 (D := d) hO hRm hL (by omega) (by decide) (c := 0) (by decide) (zC_0 hM) rfl rfl (e_X0_takeInOrder (d := d - 1) htr hM (by omega)) zl_X0_217 zi_X0_takeInOrder zs_X0_takeInOrder zc_X0_takeInOrder zn_X0 zd_X0_takeInOrder (Nat.le_of_ble_eq_true rfl) dX0_shareProcessors_5 (by omega) (by omega) ?_
  refine zr_istore_1 hO dX0_shareProcessors_8 (by decide) rfl ?_
  refine zr_iconst (v := 0) hO dX0_shareProcessors_9 (by decide) ?_
  refine zr_istore_2 hO dX0_shareProcessors_10 (by decide) rfl ?_
  refine z_for (P := fun k s => zV G X 4 0 0 (fun x => n ≤ x) ly τ (zwr σ o 95 s) 11 [some (.ref o), some (.int (nI (cF_takes (cF_lent M)).2)), some (.int (nI k)), none, none, none, none, none, none] []) 3 (cB_drop (nI (cF_takes (cF_lent M)).2)) (fun _ _ => True) (cF_takes (cF_lent M)).1 trivial (fun _ _ _ _ => trivial) ?_ ?_
  · intro k s hk hIk ih
    refine zr_iload_2 hO dX0_shareProcessors_11 ?_
    refine zr_iconst (v := 3) hO dX0_shareProcessors_12 (by decide) ?_
    refine zr_icmp_ge (tgt := 58) hO dX0_shareProcessors_13 (by decide) (fun c13 => ?_) (fun c13 => ?_)
    · exact absurd (zlt_T (x := 3) (by decide) hk) c13
    · refine zr_aload_0 hO dX0_shareProcessors_16 ?_
      refine zr_aload_0 hO dX0_shareProcessors_17 ?_
      refine zr_getfr (c := 0) hO (by decide) (by decide) zf_X0_41 (zC_0 hM) rfl rfl dX0_shareProcessors_18 ?_
      refine zr_iload_2 hO dX0_shareProcessors_21 ?_
      refine zg_ialdN hO (zC_12 hM) (by decide) (by omega) (by decide) dX0_shareProcessors_22 ?_
      refine zr_V1 (D := d) hO hRm hL (by omega) (by decide) (c := 0) (by decide) (zC_0 hM) rfl rfl (e_X0_taskAt (d := d - 1) htr hM (by omega)) zl_X0_103 zi_X0_taskAt zs_X0_taskAt zc_X0_taskAt zn_X0 zd_X0_taskAt (Nat.le_of_ble_eq_true rfl) dX0_shareProcessors_23 (by omega) (by omega) ?_
      generalize hq23 : cF_at _ = r23
      rcases r23 with _ | r23
      · refine zr_nstore_3 hO dX0_shareProcessors_26 (by decide) rfl ?_
        refine zr_nload_3 hO dX0_shareProcessors_27 ?_
        refine zr_ifnullN (tgt := 52) hO dX0_shareProcessors_28 (by decide) ?_
        refine zr_iinc_2 (v := 1) hO dX0_shareProcessors_52 (by decide) (by decide) rfl ?_
        refine zr_goto (tgt := 11) hO dX0_shareProcessors_55 (by decide) ?_
        refine zV_d3 ?_
        rw [nI_1]
        simp only [cB_drop, if_pos c13, hq23] at ih
        first | exact ih | contradiction
      · have hr23 : r23 < 16 := cF_at_lt hq23
        refine zr_astore_3 hO dX0_shareProcessors_26 (by decide) rfl ?_
        refine zr_aload_3 hO dX0_shareProcessors_27 ?_
        refine zr_ifnull hO dX0_shareProcessors_28 ?_
        refine zr_aload_0 hO dX0_shareProcessors_31 ?_
        refine zr_aload_3 hO dX0_shareProcessors_32 ?_
        refine zr_iload_1 hO dX0_shareProcessors_33 ?_
        refine zr_V2 (D := d) hO hRm hL (by omega) (by decide) (c := 0) (by decide) (zC_0 hM) rfl rfl (e_X0_isTaken (d := d - 1) htr hM (by omega) hr23) zl_X0_221 zi_X0_isTaken zs_X0_isTaken zc_X0_isTaken zn_X0 zd_X0_isTaken (Nat.le_of_ble_eq_true rfl) dX0_shareProcessors_34 (by omega) (by omega) ?_
        refine zV_pc (pc' := 37) rfl ?_
        refine zr_ifb_ne (tgt := 52) hO dX0_shareProcessors_37 (by decide) (fun c37 => ?_) (fun c37 => ?_)
        · refine zr_iinc_2 (v := 1) hO dX0_shareProcessors_52 (by decide) (by decide) rfl ?_
          refine zr_goto (tgt := 11) hO dX0_shareProcessors_55 (by decide) ?_
          refine zV_d3 ?_
          rw [nI_1]
          simp only [cB_drop, if_pos c13, hq23, if_pos c37] at ih
          first | exact ih | contradiction
        · refine zr_aload_0 hO dX0_shareProcessors_40 ?_
          refine zr_getfr (c := 0) hO (by decide) (by decide) zf_X0_41 (zC_0 hM) rfl rfl dX0_shareProcessors_41 ?_
          refine zr_iload_2 hO dX0_shareProcessors_44 ?_
          refine zr_iconst (v := (-1)) hO dX0_shareProcessors_45 (by decide) ?_
          refine zg_iastN hO (zC_12 hM) (by decide) (by omega) (by decide) dX0_shareProcessors_46 ?_
          refine zr_aload_3 hO dX0_shareProcessors_47 ?_
          refine zr_iconst (v := 1) hO dX0_shareProcessors_48 (by decide) ?_
          refine zV_pc (pc' := 49) rfl ?_
          refine zg_putfi (c := 4) hO (zC_t hM hr23) (by have := hr23; unfold ztk; omega) (by decide) (by decide) zf_X0_82 rfl rfl dX0_shareProcessors_49 ?_
          refine zr_iinc_2 (v := 1) hO dX0_shareProcessors_52 (by decide) (by decide) rfl ?_
          refine zr_goto (tgt := 11) hO dX0_shareProcessors_55 (by decide) ?_
          refine zV_d3 ?_
          rw [nI_1]
          simp only [cB_drop, if_pos c13, hq23, if_neg (zif_f c37)] at ih
          first | exact ih | contradiction
  · intro hIk
    refine zr_iload_2 hO dX0_shareProcessors_11 ?_
    refine zr_iconst (v := 3) hO dX0_shareProcessors_12 (by decide) ?_
    refine zr_icmp_ge (tgt := 58) hO dX0_shareProcessors_13 (by decide) (fun c13 => ?_) (fun c13 => ?_)
    · refine zr_iconst (v := 0) hO dX0_shareProcessors_58 (by decide) ?_
      refine zr_istore_2 hO dX0_shareProcessors_59 (by decide) rfl ?_
      refine z_for (P := fun k s => zV G X 4 0 0 (fun x => n ≤ x) ly τ (zwr σ o 95 s) 60 [some (.ref o), some (.int (nI (cF_takes (cF_lent M)).2)), some (.int (nI k)), none, none, none, none, none, none] []) (cF_takes (cF_lent M)).2 cB_put (fun _ _ => True) ((List.range 3).foldl (fun s k => cB_drop (nI (cF_takes (cF_lent M)).2) k s) (cF_takes (cF_lent M)).1) trivial (fun _ _ _ _ => trivial) ?_ ?_
      · intro k s hk hIk ih
        have hk3 : k < 3 := by omega
        refine zr_iload_2 hO dX0_shareProcessors_60 ?_
        refine zr_iload_1 hO dX0_shareProcessors_61 ?_
        refine zr_icmp_ge (tgt := 104) hO dX0_shareProcessors_62 (by decide) (fun c62 => ?_) (fun c62 => ?_)
        · exact absurd (nI_lt hk (by omega)) c62
        · refine zr_iload_2 hO dX0_shareProcessors_65 ?_
          refine zr_iconst (v := 3) hO dX0_shareProcessors_66 (by decide) ?_
          refine zr_icmp_ge (tgt := 104) hO dX0_shareProcessors_67 (by decide) (fun c67 => ?_) (fun c67 => ?_)
          · exact absurd (zlt_T (x := 3) (by decide) hk3) c67
          · refine zr_aload_0 hO dX0_shareProcessors_70 ?_
            refine zr_aload_0 hO dX0_shareProcessors_71 ?_
            refine zr_getfr (c := 0) hO (by decide) (by decide) zf_X0_44 (zC_0 hM) rfl rfl dX0_shareProcessors_72 ?_
            refine zr_iload_2 hO dX0_shareProcessors_75 ?_
            refine zg_ialdN hO (zC_13 hM) (by decide) (by omega) (by decide) dX0_shareProcessors_76 ?_
            refine zr_V1 (D := d) hO hRm hL (by omega) (by decide) (c := 0) (by decide) (zC_0 hM) rfl rfl (e_X0_taskAt (d := d - 1) htr hM (by omega)) zl_X0_103 zi_X0_taskAt zs_X0_taskAt zc_X0_taskAt zn_X0 zd_X0_taskAt (Nat.le_of_ble_eq_true rfl) dX0_shareProcessors_77 (by omega) (by omega) ?_
            generalize hq77 : cF_at _ = r77
            rcases r77 with _ | r77
            · refine zr_nstore_3 hO dX0_shareProcessors_80 (by decide) rfl ?_
              refine zr_nload_3 hO dX0_shareProcessors_81 ?_
              refine zr_ifnullN (tgt := 98) hO dX0_shareProcessors_82 (by decide) ?_
              refine zr_iinc_2 (v := 1) hO dX0_shareProcessors_98 (by decide) (by decide) rfl ?_
              refine zr_goto (tgt := 60) hO dX0_shareProcessors_101 (by decide) ?_
              refine zV_d3 ?_
              rw [nI_1]
              simp only [cB_put, if_pos c62, if_pos c67, hq77] at ih
              first | exact ih | contradiction
            · have hr77 : r77 < 16 := cF_at_lt hq77
              refine zr_astore_3 hO dX0_shareProcessors_80 (by decide) rfl ?_
              refine zr_aload_3 hO dX0_shareProcessors_81 ?_
              refine zr_ifnull hO dX0_shareProcessors_82 ?_
              refine zr_aload_3 hO dX0_shareProcessors_85 ?_
              refine zg_getfi (c := 4) hO (zC_t hM hr77) (by have := hr77; unfold ztk; omega) (by decide) (by decide) zf_X0_82 rfl dX0_shareProcessors_86 ?_
              refine zr_iconst (v := 1) hO dX0_shareProcessors_89 (by decide) ?_
              refine zr_icmp_ne (tgt := 98) hO dX0_shareProcessors_90 (by decide) (fun c90 => ?_) (fun c90 => ?_)
              · refine zr_iinc_2 (v := 1) hO dX0_shareProcessors_98 (by decide) (by decide) rfl ?_
                refine zr_goto (tgt := 60) hO dX0_shareProcessors_101 (by decide) ?_
                refine zV_d3 ?_
                rw [nI_1]
                simp only [cB_put, if_pos c62, if_pos c67, hq77, if_neg c90] at ih
                first | exact ih | contradiction
              · refine zr_aload_0 hO dX0_shareProcessors_93 ?_
                refine zr_aload_3 hO dX0_shareProcessors_94 ?_
                refine zr_V1 (D := d) hO hRm hL (by omega) (by decide) (c := 0) (by decide) (zC_0 hM) rfl rfl (e_X0_switchTo (d := d - 1) htr hM (by omega) hr77) zl_X0_225 zi_X0_switchTo zs_X0_switchTo zc_X0_switchTo zn_X0 zd_X0_switchTo (Nat.le_of_ble_eq_true rfl) dX0_shareProcessors_95 (by omega) (by omega) ?_
                refine zr_iinc_2 (v := 1) hO dX0_shareProcessors_98 (by decide) (by decide) rfl ?_
                refine zr_goto (tgt := 60) hO dX0_shareProcessors_101 (by decide) ?_
                refine zV_d3 ?_
                rw [nI_1]
                simp only [cB_put, if_pos c62, if_pos c67, hq77, if_pos c90] at ih
                first | exact ih | contradiction
      · intro hIk
        refine zr_iload_2 hO dX0_shareProcessors_60 ?_
        refine zr_iload_1 hO dX0_shareProcessors_61 ?_
        refine zr_icmp_ge (tgt := 104) hO dX0_shareProcessors_62 (by decide) (fun c62 => ?_) (fun c62 => ?_)
        · exact zr_return hO hE dX0_shareProcessors_104 (zpl_v (by first | ((simp only [cF_share, if_neg c13, if_neg c62]) <;> rfl) | contradiction))
        · exact absurd c62 Int32.lt_irrefl
    · exact absurd c13 (zlt_F (x := 3) (by decide))
