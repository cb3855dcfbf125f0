set_option maxRecDepth 100000 in
set_option maxHeartbeats 400000 in
theorem e_X0_takeInOrder {l : Launch} {G : zGm} {d n o : Nat} {ly : zLy} {τ : zTu} {σ M : zSg}  (htr : l.stackTraces = false) (hM : zC ly o) (hd : 2 ≤ d)  :
    zEv l G d 0 0 (yX0_takeInOrder, cX0_takeInOrder, 5, some .int) [.ref o] (fun x => n ≤ x) ly τ (zwr σ o 95 M) (zPl n ly τ (zwr σ o 95 (cF_takes M).1) (some (.int (nI (cF_takes M).2)))) := by
  refine zEv_of (ls := [some (.ref o), none, none, none, none, none, none, none, none]) htr (by decide) (Nat.le_of_ble_eq_true rfl) rfl (fun X hO hE hN hRm hL hNm => ?_)
  have hO : zOk G X RX0 cX0_takeInOrder 5 := hO
  have key36 : ∀ (j p : Nat) (M1 : zSg) (w : Int32) (c : Nat), p + j = 16 → c ≤ 3 → cF_tio j M1 w c = cF_takes M → zV G X 5 0 0 (fun x => n ≤ x) ly τ (zwr σ o 95 M1) 36 [some (.ref o), some (.int w), some (.int (nI c)), some (.int (nI p)), none, none, none, none, none] [] := by
    intro j
    induction j with
    | zero =>
      intro p M1 w c hp hc h
      rw [cF_tio] at h
      refine zr_iload_3 hO dX0_takeInOrder_36 ?_
      refine zr_bipush (v := 16) hO dX0_takeInOrder_37 (by decide) ?_
      refine zr_icmp_ge (tgt := 116) hO dX0_takeInOrder_39 (by decide) (fun c39 => ?_) (fun c39 => ?_)
      · refine zr_iload_2 hO dX0_takeInOrder_116 ?_
        exact zr_ireturn hO hE dX0_takeInOrder_117 (zpl_i (by rw [← h]) (by rw [← h]))
      · exact absurd c39 (by rw [show p = 16 by omega]; decide)
    | succ j ih =>
      intro p M1 w c hp hc h
      rw [cF_tio] at h
      refine zr_iload_3 hO dX0_takeInOrder_36 ?_
      refine zr_bipush (v := 16) hO dX0_takeInOrder_37 (by decide) ?_
      refine zr_icmp_ge (tgt := 116) hO dX0_takeInOrder_39 (by decide) (fun c39 => ?_) (fun c39 => ?_)
      · exact absurd (zlt_T (x := 16) (by decide) (show p < 16 by omega)) c39
      · refine zr_iload_2 hO dX0_takeInOrder_42 ?_
        refine zr_aload_0 hO dX0_takeInOrder_43 ?_
        refine zr_getfr (c := 0) hO (by decide) (by decide) zf_X0_12 (zC_0 hM) rfl rfl dX0_takeInOrder_44 ?_
        refine zg_getfi (c := 2) hO (zC_1 hM) (by decide) (by decide) (by decide) zf_X0_182 rfl dX0_takeInOrder_47 ?_
        refine zr_icmp_ge (tgt := 116) hO dX0_takeInOrder_50 (by decide) (fun c50 => ?_) (fun c50 => ?_)
        · refine zr_iload_2 hO dX0_takeInOrder_116 ?_
          simp only [if_neg c50] at h
          exact zr_ireturn hO hE dX0_takeInOrder_117 (zpl_i (by rw [← h]) (by rw [← h]))
        · refine zr_aload_0 hO dX0_takeInOrder_53 ?_
          refine zr_iload_1 hO dX0_takeInOrder_54 ?_
          refine zr_V1 (D := d) hO hRm hL (by omega) (by decide) (c := 0) (by decide) (zC_0 hM) rfl rfl (e_X0_firstOf (d := d - 1) htr hM (by omega)) zl_X0_231 zi_X0_firstOf zs_X0_firstOf zc_X0_firstOf zn_X0 zd_X0_firstOf (Nat.le_of_ble_eq_true rfl) dX0_takeInOrder_55 (by omega) (by omega) ?_
          generalize hq55 : cF_first _ _ = r55
          rcases r55 with _ | r55
          · refine zr_nstore_4 hO dX0_takeInOrder_58 (by decide) rfl ?_
            refine zr_nload_4 hO dX0_takeInOrder_60 ?_
            refine zr_ifnonnullN hO dX0_takeInOrder_62 ?_
            refine zr_iload_2 hO dX0_takeInOrder_65 ?_
            simp only [if_pos c50, hq55] at h
            exact zr_ireturn hO hE dX0_takeInOrder_66 (zpl_i (by rw [← h]) (by rw [← h]))
          · have hr55 : r55 < 16 := cF_first_lt hq55
            refine zr_astore_4 hO dX0_takeInOrder_58 (by decide) rfl ?_
            refine zr_aload_4 hO dX0_takeInOrder_60 ?_
            refine zr_ifnonnull (tgt := 67) hO dX0_takeInOrder_62 (by decide) ?_
            refine zr_iload_1 hO dX0_takeInOrder_67 ?_
            refine zr_iconst (v := 1) hO dX0_takeInOrder_68 (by decide) ?_
            refine zr_aload_4 hO dX0_takeInOrder_69 ?_
            refine zg_getfi (c := 4) hO (zC_t hM hr55) (by have := hr55; unfold ztk; omega) (by decide) (by decide) zf_X0_85 rfl dX0_takeInOrder_71 ?_
            refine zV_pc (pc' := 74) rfl ?_
            refine zr_ishl hO dX0_takeInOrder_74 ?_
            refine zr_iconst (v := (-1)) hO dX0_takeInOrder_75 (by decide) ?_
            refine zr_ixor hO dX0_takeInOrder_76 ?_
            refine zr_iand hO dX0_takeInOrder_77 ?_
            refine zr_istore_1 hO dX0_takeInOrder_78 (by decide) rfl ?_
            refine zr_iload_2 hO dX0_takeInOrder_79 ?_
            refine zr_iconst (v := 3) hO dX0_takeInOrder_80 (by decide) ?_
            refine zV_pc (pc' := 81) rfl ?_
            refine zr_icmp_ge (tgt := 110) hO dX0_takeInOrder_81 (by decide) (fun c81 => ?_) (fun c81 => ?_)
            · refine zr_iinc_3 (v := 1) hO dX0_takeInOrder_110 (by decide) (by decide) rfl ?_
              refine zr_goto (tgt := 36) hO dX0_takeInOrder_113 (by decide) ?_
              simp only [if_pos c50, hq55, if_neg c81] at h
              refine zV_d4 ?_
              rw [nI_1]
              exact ih (p + 1) _ _ _ (by omega) hc h
            · refine zr_aload_0 hO dX0_takeInOrder_84 ?_
              refine zr_aload_4 hO dX0_takeInOrder_85 ?_
              refine zg_getfi (c := 4) hO (zC_t hM hr55) (by have := hr55; unfold ztk; omega) (by decide) (by decide) zf_X0_234 rfl dX0_takeInOrder_87 ?_
              refine zr_V1 (D := d) hO hRm hL (by omega) (by decide) (c := 0) (by decide) (zC_0 hM) rfl rfl (e_X0_takeOfGroup (d := d - 1) htr hM (by omega)) zl_X0_237 zi_X0_takeOfGroup zs_X0_takeOfGroup zc_X0_takeOfGroup zn_X0 zd_X0_takeOfGroup (Nat.le_of_ble_eq_true rfl) dX0_takeInOrder_90 (by omega) (by omega) ?_
              refine zr_ifb_eq (tgt := 110) hO dX0_takeInOrder_93 (by decide) (fun c93 => ?_) (fun c93 => ?_)
              · refine zr_iinc_3 (v := 1) hO dX0_takeInOrder_110 (by decide) (by decide) rfl ?_
                refine zr_goto (tgt := 36) hO dX0_takeInOrder_113 (by decide) ?_
                simp only [if_pos c50, hq55, if_pos c81, if_neg (zif_f c93)] at h
                refine zV_d4 ?_
                rw [nI_1]
                exact ih (p + 1) _ _ _ (by omega) hc h
              · refine zr_aload_0 hO dX0_takeInOrder_96 ?_
                refine zr_getfr (c := 0) hO (by decide) (by decide) zf_X0_44 (zC_0 hM) rfl rfl dX0_takeInOrder_97 ?_
                refine zr_iload_2 hO dX0_takeInOrder_100 ?_
                refine zr_aload_4 hO dX0_takeInOrder_101 ?_
                refine zg_getfi (c := 4) hO (zC_t hM hr55) (by have := hr55; unfold ztk; omega) (by decide) (by decide) zf_X0_85 rfl dX0_takeInOrder_103 ?_
                refine zg_iastN hO (zC_13 hM) (by decide) (nI_lt3 hc c81) (by decide) dX0_takeInOrder_106 ?_
                refine zr_iinc_2 (v := 1) hO dX0_takeInOrder_107 (by decide) (by decide) rfl ?_
                refine zV_pc (pc' := 110) rfl ?_
                refine zr_iinc_3 (v := 1) hO dX0_takeInOrder_110 (by decide) (by decide) rfl ?_
                refine zr_goto (tgt := 36) hO dX0_takeInOrder_113 (by decide) ?_
                simp only [if_pos c50, hq55, if_pos c81, if_pos c93] at h
                refine zV_d4 ?_
                rw [nI_1]
                rw [nI_1]
                exact ih (p + 1) _ _ _ (by omega) (by have := nI_lt3 hc c81; omega) h
  refine zr_aload_0 hO dX0_takeInOrder_0 ?_
  refine zr_iconst (v := 1) hO dX0_takeInOrder_1 (by decide) ?_
  refine zr_V1 (D := d) hO hRm hL (by omega) (by decide) (c := 0) (by decide) (zC_0 hM) rfl rfl (e_X0_tasksIn (d := d - 1) htr hM (by omega)) zl_X0_228 zi_X0_tasksIn zs_X0_tasksIn zc_X0_tasksIn zn_X0 zd_X0_tasksIn (Nat.le_of_ble_eq_true rfl) dX0_takeInOrder_2 (by omega) (by omega) ?_
  refine zr_aload_0 hO dX0_takeInOrder_5 ?_
  refine zr_iconst (v := 2) hO dX0_takeInOrder_6 (by decide) ?_
  refine zr_V1 (D := d) hO hRm hL (by omega) (by decide) (c := 0) (by decide) (zC_0 hM) rfl rfl (e_X0_tasksIn (d := d - 1) htr hM (by omega)) zl_X0_228 zi_X0_tasksIn zs_X0_tasksIn zc_X0_tasksIn zn_X0 zd_X0_tasksIn (Nat.le_of_ble_eq_true rfl) dX0_takeInOrder_7 (by omega) (by omega) ?_
  refine zr_ior hO dX0_takeInOrder_10 ?_
  refine zV_pc (pc' := 11) rfl ?_
  refine zr_istore_1 hO dX0_takeInOrder_11 (by decide) rfl ?_
  refine zr_iconst (v := 0) hO dX0_takeInOrder_12 (by decide) ?_
  refine zr_istore_2 hO dX0_takeInOrder_13 (by decide) rfl ?_
  rw [← nI_0]
  refine zr_iconst (v := 0) hO dX0_takeInOrder_14 (by decide) ?_
  refine zr_istore_3 hO dX0_takeInOrder_15 (by decide) rfl ?_
  refine z_for (P := fun k s => zV G X 5 0 0 (fun x => n ≤ x) ly τ (zwr σ o 95 s) 16 [some (.ref o), some (.int (cF_in M 1 ||| cF_in M 2)), some (.int (nI 0)), some (.int (nI k)), none, none, none, none, none] []) 4 (fun k s => zup s 14 k 0) (fun _ _ => True) M trivial (fun _ _ _ _ => trivial) ?_ ?_
  · intro k s hk hIk ih
    refine zr_iload_3 hO dX0_takeInOrder_16 ?_
    refine zr_iconst (v := 4) hO dX0_takeInOrder_17 (by decide) ?_
    refine zr_icmp_ge (tgt := 34) hO dX0_takeInOrder_18 (by decide) (fun c18 => ?_) (fun c18 => ?_)
    · exact absurd (zlt_T (x := 4) (by decide) hk) c18
    · refine zr_aload_0 hO dX0_takeInOrder_21 ?_
      refine zr_getfr (c := 0) hO (by decide) (by decide) zf_X0_47 (zC_0 hM) rfl rfl dX0_takeInOrder_22 ?_
      refine zr_iload_3 hO dX0_takeInOrder_25 ?_
      refine zr_iconst (v := 0) hO dX0_takeInOrder_26 (by decide) ?_
      refine zg_iastN hO (zC_14 hM) (by decide) hk (by decide) dX0_takeInOrder_27 ?_
      refine zr_iinc_3 (v := 1) hO dX0_takeInOrder_28 (by decide) (by decide) rfl ?_
      refine zr_goto (tgt := 16) hO dX0_takeInOrder_31 (by decide) ?_
      rw [nI_1]
      exact ih
  · intro hIk
    refine zr_iload_3 hO dX0_takeInOrder_16 ?_
    refine zr_iconst (v := 4) hO dX0_takeInOrder_17 (by decide) ?_
    refine zr_icmp_ge (tgt := 34) hO dX0_takeInOrder_18 (by decide) (fun c18 => ?_) (fun c18 => ?_)
    · refine zr_iconst (v := 0) hO dX0_takeInOrder_34 (by decide) ?_
      refine zr_istore_3 hO dX0_takeInOrder_35 (by decide) rfl ?_
      rw [← nI_0]
      exact key36 16 0 _ _ 0 rfl (by decide) rfl
    · exact absurd c18 (zlt_F (x := 4) (by decide))
