set_option maxRecDepth 100000 in
set_option maxHeartbeats 400000 in
theorem e_X0_findLentKeys {l : Launch} {G : zGm} {d n o : Nat} {ly : zLy} {τ : zTu} {σ M : zSg}  (htr : l.stackTraces = false) (hM : zC ly o) (hd : 1 ≤ d)  :
    zEv l G d 0 0 (yX0_findLentKeys, cX0_findLentKeys, 8, none) [.ref o] (fun x => n ≤ x) ly τ (zwr σ o 95 M) (zPl n ly τ (zwr σ o 95 (cF_lent M)) none) := by
  refine zEv_of (ls := [some (.ref o), none, none, none, none, none, none, none, none]) htr (by decide) (Nat.le_of_ble_eq_true rfl) rfl (fun X hO hE hN hRm hL hNm => ?_)
  have hO : zOk G X RX0 cX0_findLentKeys 8 := hO
  have key47 : ∀ (j p : Nat) (M1 : zSg) (c : Int32), p + j = 16 → cF_passes j (M1, c) = cF_lent M → zV G X 8 0 0 (fun x => n ≤ x) ly τ (zwr σ o 95 M1) 47 [some (.ref o), some (.int c), some (.int (nI p)), none, none, none, none, none, none] [] := by
    intro j
    induction j with
    | zero =>
      intro p M1 c hp h
      refine zr_iload_2 hO dX0_findLentKeys_47 ?_
      refine zr_bipush (v := 16) hO dX0_findLentKeys_48 (by decide) ?_
      refine zr_icmp_ge (tgt := 154) hO dX0_findLentKeys_50 (by decide) (fun c50 => ?_) (fun c50 => ?_)
      · rw [show M1 = cF_lent M from h]
        exact zr_return hO hE dX0_findLentKeys_154 (zpl_v rfl)
      · exact absurd c50 (by rw [show p = 16 by omega]; decide)
    | succ j ihj =>
      intro p M1 c hp h
      rw [cF_passes] at h
      refine zr_iload_2 hO dX0_findLentKeys_47 ?_
      refine zr_bipush (v := 16) hO dX0_findLentKeys_48 (by decide) ?_
      refine zr_icmp_ge (tgt := 154) hO dX0_findLentKeys_50 (by decide) (fun c50 => ?_) (fun c50 => ?_)
      · exact absurd (zlt_T (x := 16) (by decide) (show p < 16 by omega)) c50
      · refine zr_iload_1 hO dX0_findLentKeys_53 ?_
        refine zr_if_eq (tgt := 154) hO dX0_findLentKeys_54 (by decide) (fun c54 => ?_) (fun c54 => ?_)
        · rw [if_pos c54] at h
          rw [show M1 = cF_lent M from h]
          exact zr_return hO hE dX0_findLentKeys_154 (zpl_v rfl)
        · rw [if_neg c54] at h
          replace h : cF_passes j (cF_pass M1) = cF_lent M := h
          refine zr_iconst (v := 0) hO dX0_findLentKeys_57 (by decide) ?_
          refine zr_istore_1 hO dX0_findLentKeys_58 (by decide) rfl ?_
          refine zr_aload_0 hO dX0_findLentKeys_59 ?_
          refine zr_getfr (c := 0) hO (by decide) (by decide) zf_X0_27 (zC_0 hM) rfl rfl dX0_findLentKeys_60 ?_
          refine zr_astore_3 hO dX0_findLentKeys_63 (by decide) rfl ?_
          refine zr_aload_3 hO dX0_findLentKeys_64 ?_
          refine zr_alenT (v := 16) hO (zC_8 hM) rfl dX0_findLentKeys_65 ?_
          refine zV_pc (pc' := 66) rfl ?_
          refine zr_istore_4 hO dX0_findLentKeys_66 (by decide) rfl ?_
          refine zr_iconst (v := 0) hO dX0_findLentKeys_68 (by decide) ?_
          refine zr_istore_5 hO dX0_findLentKeys_69 (by decide) rfl ?_
          refine z_for (P := fun k s => zV G X 8 0 0 (fun x => n ≤ x) ly τ (zwr σ o 95 s.1) 71 [some (.ref o), some (.int s.2), some (.int (nI p)), some (.ref (o + 8)), some (.int 16), some (.int (nI k)), none, none, none] []) 16 cB_rel (fun _ _ => True) (M1, 0) trivial (fun _ _ _ _ => trivial) ?_ ?_
          · intro k s hk hIk ih
            refine zr_iload_5 hO dX0_findLentKeys_71 ?_
            refine zr_iload_4 hO dX0_findLentKeys_73 ?_
            refine zr_icmp_ge (tgt := 148) hO dX0_findLentKeys_75 (by decide) (fun c75 => ?_) (fun c75 => ?_)
            · exact absurd (zlt_T (x := 16) (by decide) hk) c75
            · refine zr_aload_3 hO dX0_findLentKeys_78 ?_
              refine zr_iload_5 hO dX0_findLentKeys_79 ?_
              refine zr_aaldTN hO (zC_8 hM) hk dX0_findLentKeys_81 ?_
              refine zr_astore_6 hO dX0_findLentKeys_82 (by decide) rfl ?_
              refine zr_aload_6 hO dX0_findLentKeys_84 ?_
              refine zg_getfi (c := 4) hO (zC_t hM hk) (by have := hk; unfold ztk; omega) (by decide) (by decide) zf_X0_82 rfl dX0_findLentKeys_86 ?_
              refine zr_iconst (v := 4) hO dX0_findLentKeys_89 (by decide) ?_
              refine zV_pc (pc' := 90) rfl ?_
              refine zr_icmp_ne (tgt := 109) hO dX0_findLentKeys_90 (by decide) (fun c90 => ?_) (fun c90 => ?_)
              · refine zr_null hO dX0_findLentKeys_109 ?_
                refine zr_nstore_7 hO dX0_findLentKeys_110 (by decide) rfl ?_
                refine zr_nload_7 hO dX0_findLentKeys_112 ?_
                refine zr_ifnullN (tgt := 142) hO dX0_findLentKeys_114 (by decide) ?_
                refine zr_iinc_5 (v := 1) hO dX0_findLentKeys_142 (by decide) (by decide) rfl ?_
                refine zr_goto (tgt := 71) hO dX0_findLentKeys_145 (by decide) ?_
                refine zV_d6 ?_
                refine zV_d7 ?_
                rw [nI_1]
                simp only [cB_rel, if_pos c75, if_neg c90] at ih
                first | exact ih | contradiction
              · refine zr_aload_0 hO dX0_findLentKeys_93 ?_
                refine zr_aload_0 hO dX0_findLentKeys_94 ?_
                refine zr_aload_6 hO dX0_findLentKeys_95 ?_
                refine zg_getfi (c := 4) hO (zC_t hM hk) (by have := hk; unfold ztk; omega) (by decide) (by decide) zf_X0_96 rfl dX0_findLentKeys_97 ?_
                refine zr_V1 (D := d) hO hRm hL (by omega) (by decide) (c := 0) (by decide) (zC_0 hM) rfl rfl (e_X0_holderOf (d := d - 1) htr hM (by omega)) zl_X0_99 zi_X0_holderOf zs_X0_holderOf zc_X0_holderOf zn_X0 zd_X0_holderOf (Nat.le_of_ble_eq_true rfl) dX0_findLentKeys_100 (by omega) (by omega) ?_
                refine zr_V1 (D := d) hO hRm hL (by omega) (by decide) (c := 0) (by decide) (zC_0 hM) rfl rfl (e_X0_taskAt (d := d - 1) htr hM (by omega)) zl_X0_103 zi_X0_taskAt zs_X0_taskAt zc_X0_taskAt zn_X0 zd_X0_taskAt (Nat.le_of_ble_eq_true rfl) dX0_findLentKeys_103 (by omega) (by omega) ?_
                generalize hq103 : cF_at _ = r103
                rcases r103 with _ | r103
                · refine zr_goto (tgt := 110) hO dX0_findLentKeys_106 (by decide) ?_
                  refine zr_nstore_7 hO dX0_findLentKeys_110 (by decide) rfl ?_
                  refine zr_nload_7 hO dX0_findLentKeys_112 ?_
                  refine zr_ifnullN (tgt := 142) hO dX0_findLentKeys_114 (by decide) ?_
                  refine zr_iinc_5 (v := 1) hO dX0_findLentKeys_142 (by decide) (by decide) rfl ?_
                  refine zr_goto (tgt := 71) hO dX0_findLentKeys_145 (by decide) ?_
                  refine zV_d6 ?_
                  refine zV_d7 ?_
                  rw [nI_1]
                  simp only [cB_rel, if_pos c75, if_pos c90, hq103] at ih
                  first | exact ih | contradiction
                · have hr103 : r103 < 16 := cF_at_lt hq103
                  refine zr_goto (tgt := 110) hO dX0_findLentKeys_106 (by decide) ?_
                  refine zr_astore_7 hO dX0_findLentKeys_110 (by decide) rfl ?_
                  refine zr_aload_7 hO dX0_findLentKeys_112 ?_
                  refine zr_ifnull hO dX0_findLentKeys_114 ?_
                  refine zr_aload_6 hO dX0_findLentKeys_117 ?_
                  refine zg_getfi (c := 4) hO (zC_t hM hk) (by have := hk; unfold ztk; omega) (by decide) (by decide) zf_X0_113 rfl dX0_findLentKeys_119 ?_
                  refine zr_aload_7 hO dX0_findLentKeys_122 ?_
                  refine zV_pc (pc' := 124) rfl ?_
                  refine zg_getfi (c := 4) hO (zC_t hM hr103) (by have := hr103; unfold ztk; omega) (by decide) (by decide) zf_X0_113 rfl dX0_findLentKeys_124 ?_
                  refine zr_icmp_ge (tgt := 142) hO dX0_findLentKeys_127 (by decide) (fun c127 => ?_) (fun c127 => ?_)
                  · refine zr_iinc_5 (v := 1) hO dX0_findLentKeys_142 (by decide) (by decide) rfl ?_
                    refine zr_goto (tgt := 71) hO dX0_findLentKeys_145 (by decide) ?_
                    refine zV_d6 ?_
                    refine zV_d7 ?_
                    rw [nI_1]
                    simp only [cB_rel, if_pos c75, if_pos c90, hq103, if_neg c127] at ih
                    first | exact ih | contradiction
                  · refine zr_aload_7 hO dX0_findLentKeys_130 ?_
                    refine zr_aload_6 hO dX0_findLentKeys_132 ?_
                    refine zg_getfi (c := 4) hO (zC_t hM hk) (by have := hk; unfold ztk; omega) (by decide) (by decide) zf_X0_113 rfl dX0_findLentKeys_134 ?_
                    refine zg_putfi (c := 4) hO (zC_t hM hr103) (by have := hr103; unfold ztk; omega) (by decide) (by decide) zf_X0_113 rfl rfl dX0_findLentKeys_137 ?_
                    refine zr_iconst (v := 1) hO dX0_findLentKeys_140 (by decide) ?_
                    refine zr_istore_1 hO dX0_findLentKeys_141 (by decide) rfl ?_
                    refine zr_iinc_5 (v := 1) hO dX0_findLentKeys_142 (by decide) (by decide) rfl ?_
                    refine zV_pc (pc' := 145) rfl ?_
                    refine zr_goto (tgt := 71) hO dX0_findLentKeys_145 (by decide) ?_
                    refine zV_d6 ?_
                    refine zV_d7 ?_
                    rw [nI_1]
                    simp only [cB_rel, if_pos c75, if_pos c90, hq103, if_pos c127] at ih
                    first | exact ih | contradiction
          · intro hIk
            rw [show (List.range 16).foldl (fun s i => cB_rel i s) (M1, 0) = cF_pass M1 from rfl]
            generalize hps : cF_pass M1 = r9 at h ⊢
            obtain ⟨Ma, ca⟩ := r9
            dsimp only
            refine zr_iload_5 hO dX0_findLentKeys_71 ?_
            refine zr_iload_4 hO dX0_findLentKeys_73 ?_
            refine zr_icmp_ge (tgt := 148) hO dX0_findLentKeys_75 (by decide) (fun c75 => ?_) (fun c75 => ?_)
            · refine zr_iinc_2 (v := 1) hO dX0_findLentKeys_148 (by decide) (by decide) rfl ?_
              refine zr_goto (tgt := 47) hO dX0_findLentKeys_151 (by decide) ?_
              refine zV_d3 ?_
              refine zV_d4 ?_
              refine zV_d5 ?_
              rw [nI_1]
              have h9 := ihj (p + 1) Ma ca (by omega) h
              exact h9
            · exact absurd c75 (zlt_F (x := 16) (by decide))
  refine zr_aload_0 hO dX0_findLentKeys_0 ?_
  refine zr_getfr (c := 0) hO (by decide) (by decide) zf_X0_27 (zC_0 hM) rfl rfl dX0_findLentKeys_1 ?_
  refine zr_astore_1 hO dX0_findLentKeys_4 (by decide) rfl ?_
  refine zr_aload_1 hO dX0_findLentKeys_5 ?_
  refine zr_alenT (v := 16) hO (zC_8 hM) rfl dX0_findLentKeys_6 ?_
  refine zr_istore_2 hO dX0_findLentKeys_7 (by decide) rfl ?_
  refine zr_iconst (v := 0) hO dX0_findLentKeys_8 (by decide) ?_
  refine zV_pc (pc' := 9) rfl ?_
  refine zr_istore_3 hO dX0_findLentKeys_9 (by decide) rfl ?_
  refine z_for (P := fun k s => zV G X 8 0 0 (fun x => n ≤ x) ly τ (zwr σ o 95 s) 10 [some (.ref o), some (.ref (o + 8)), some (.int 16), some (.int (nI k)), none, none, none, none, none] []) 16 cB_len (fun _ _ => True) M trivial (fun _ _ _ _ => trivial) ?_ ?_
  · intro k s hk hIk ih
    refine zr_iload_3 hO dX0_findLentKeys_10 ?_
    refine zr_iload_2 hO dX0_findLentKeys_11 ?_
    refine zr_icmp_ge (tgt := 43) hO dX0_findLentKeys_12 (by decide) (fun c12 => ?_) (fun c12 => ?_)
    · exact absurd (zlt_T (x := 16) (by decide) hk) c12
    · refine zr_aload_1 hO dX0_findLentKeys_15 ?_
      refine zr_iload_3 hO dX0_findLentKeys_16 ?_
      refine zr_aaldTN hO (zC_8 hM) hk dX0_findLentKeys_17 ?_
      refine zr_astore_4 hO dX0_findLentKeys_18 (by decide) rfl ?_
      refine zr_aload_4 hO dX0_findLentKeys_20 ?_
      refine zr_aload_4 hO dX0_findLentKeys_22 ?_
      refine zr_aload_0 hO dX0_findLentKeys_24 ?_
      refine zV_pc (pc' := 25) rfl ?_
      refine zr_getfr (c := 0) hO (by decide) (by decide) zf_X0_12 (zC_0 hM) rfl rfl dX0_findLentKeys_25 ?_
      refine zg_getfi (c := 2) hO (zC_1 hM) (by decide) (by decide) (by decide) zf_X0_107 rfl dX0_findLentKeys_28 ?_
      refine zr_V1 (D := d) hO hRm hL (by omega) (by decide) (c := 4) (by decide) (zC_t hM hk) rfl rfl (e_X4_key (d := d - 1) htr hM (by omega) hk) zl_X0_110 zi_X4_key zs_X4_key zc_X4_key zn_X4 zd_X4_key (Nat.le_of_ble_eq_true rfl) dX0_findLentKeys_31 (by omega) (by omega) ?_
      refine zg_putfi (c := 4) hO (zC_t hM hk) (by have := hk; unfold ztk; omega) (by decide) (by decide) zf_X0_113 rfl rfl dX0_findLentKeys_34 ?_
      refine zr_iinc_3 (v := 1) hO dX0_findLentKeys_37 (by decide) (by decide) rfl ?_
      refine zr_goto (tgt := 10) hO dX0_findLentKeys_40 (by decide) ?_
      refine zV_d4 ?_
      rw [nI_1]
      simp only [cB_len, if_pos c12] at ih
      first | exact ih | contradiction
  · intro hIk
    refine zr_iload_3 hO dX0_findLentKeys_10 ?_
    refine zr_iload_2 hO dX0_findLentKeys_11 ?_
    refine zr_icmp_ge (tgt := 43) hO dX0_findLentKeys_12 (by decide) (fun c12 => ?_) (fun c12 => ?_)
    · refine zr_iconst (v := 1) hO dX0_findLentKeys_43 (by decide) ?_
      refine zr_istore_1 hO dX0_findLentKeys_44 (by decide) rfl ?_
      refine zr_iconst (v := 0) hO dX0_findLentKeys_45 (by decide) ?_
      refine zr_istore_2 hO dX0_findLentKeys_46 (by decide) rfl ?_
      refine zV_d3 ?_
      rw [← nI_0]
      exact key47 16 0 _ 1 rfl rfl
    · exact absurd c12 (zlt_F (x := 16) (by decide))
