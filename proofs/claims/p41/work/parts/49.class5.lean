set_option maxRecDepth 100000 in
set_option maxHeartbeats 300000 in
theorem e_X0_unlockBy {l : Launch} {G : zGm} {d n o : Nat} {ly : zLy} {τ : zTu} {σ M : zSg} {i : Nat} {q : Int32} (htr : l.stackTraces = false) (hM : zC ly o) (hd : 2 ≤ d) (hi : i < 16) : zEv l G d 0 0 (yX0_unlockBy, cX0_unlockBy, 8, none) [.ref o, .ref (o + ztk i), .int q] (fun x => n ≤ x) ly τ (zwr σ o 95 M) (zPl n ly τ (zwr σ o 95 (cF_unlock M i q)) none) := by
  refine zEv_of (ls := [some (.ref o), some (.ref (o + ztk i)), some (.int q), none, none, none, none, none, none]) htr (by decide) (Nat.le_of_ble_eq_true rfl) rfl (fun X hO hE hN hRm hL hNm => ?_)
  have hO : zOk G X RX0 cX0_unlockBy 8 := hO
  refine zr_iload_2 hO dX0_unlockBy_0 ?_
  refine zr_if_lt (tgt := 23) hO dX0_unlockBy_1 (by decide) (fun c1 => ?_) (fun c1 => ?_)
  · exact zr_return hO hE dX0_unlockBy_23 (zpl_v (by first | ((simp only [cF_unlock, if_pos c1]) <;> rfl) | contradiction))
  · refine zr_iload_2 hO dX0_unlockBy_4 ?_
    refine zr_bipush (v := 6) hO dX0_unlockBy_5 (by decide) ?_
    refine zr_icmp_ge (tgt := 23) hO dX0_unlockBy_7 (by decide) (fun c7 => ?_) (fun c7 => ?_)
    · exact zr_return hO hE dX0_unlockBy_23 (zpl_v (by first | ((simp only [cF_unlock, if_neg c1, if_neg c7]) <;> rfl) | contradiction))
    · refine zr_aload_0 hO dX0_unlockBy_10 ?_
      refine zr_getfr (c := 0) hO (by decide) (by decide) zf_X0_35 (zC_0 hM) rfl rfl dX0_unlockBy_11 ?_
      refine zr_iload_2 hO dX0_unlockBy_14 ?_
      refine zg_iald hO (zC_10 hM) (by decide) (by exact zin_c c1 c7 rfl) dX0_unlockBy_15 ?_
      refine zr_aload_1 hO dX0_unlockBy_16 ?_
      refine zg_getfi (c := 4) hO (zC_t hM hi) (by have := hi; unfold ztk; omega) (by decide) (by decide) zf_X0_85 rfl dX0_unlockBy_17 ?_
      refine zr_icmp_eq (tgt := 24) hO dX0_unlockBy_20 (by decide) (fun c20 => ?_) (fun c20 => ?_)
      · refine zr_aload_0 hO dX0_unlockBy_24 ?_
        refine zr_V0 (D := d) hO hRm hL (by omega) (by decide) (c := 0) (by decide) (zC_0 hM) rfl rfl (e_X0_findLentKeys (d := d - 1) htr hM (by omega)) zl_X0_148 zi_X0_findLentKeys zs_X0_findLentKeys zc_X0_findLentKeys zn_X0 zd_X0_findLentKeys (Nat.le_of_ble_eq_true rfl) dX0_unlockBy_25 (by omega) (by omega) ?_
        refine zr_null hO dX0_unlockBy_28 ?_
        refine zr_nstore_3 hO dX0_unlockBy_29 (by decide) rfl ?_
        refine zr_aload_0 hO dX0_unlockBy_30 ?_
        refine zr_getfr (c := 0) hO (by decide) (by decide) zf_X0_27 (zC_0 hM) rfl rfl dX0_unlockBy_31 ?_
        refine zr_astore_4 hO dX0_unlockBy_34 (by decide) rfl ?_
        refine zV_pc (pc' := 36) rfl ?_
        refine zr_aload_4 hO dX0_unlockBy_36 ?_
        refine zr_alenT (v := 16) hO (zC_8 hM) rfl dX0_unlockBy_38 ?_
        refine zr_istore_5 hO dX0_unlockBy_39 (by decide) rfl ?_
        refine zr_iconst (v := 0) hO dX0_unlockBy_41 (by decide) ?_
        refine zr_istore_6 hO dX0_unlockBy_42 (by decide) rfl ?_
        refine z_for (P := fun k s => zV G X 8 0 0 (fun x => n ≤ x) ly τ (zwr σ o 95 (cF_lent M)) 44 [some (.ref o), some (.ref (o + ztk i)), some (.int q), some (zov o s), some (.ref (o + 8)), some (.int 16), some (.int (nI k)), none, none] []) 16 (cB_heir (cF_lent M) q) (fun _ s => zoI s) none zoI_n (fun i s hi hs => zoI_heir1 _ q hi hs) ?_ ?_
        · intro k s hk hIk ih
          refine zr_iload_6 hO dX0_unlockBy_44 ?_
          refine zr_iload_5 hO dX0_unlockBy_46 ?_
          refine zr_icmp_ge (tgt := 90) hO dX0_unlockBy_48 (by decide) (fun c48 => ?_) (fun c48 => ?_)
          · exact absurd (zlt_T (x := 16) (by decide) hk) c48
          · refine zr_aload_4 hO dX0_unlockBy_51 ?_
            refine zr_iload_6 hO dX0_unlockBy_53 ?_
            refine zr_aaldTN hO (zC_8 hM) hk dX0_unlockBy_55 ?_
            refine zr_astore_7 hO dX0_unlockBy_56 (by decide) rfl ?_
            refine zr_aload_7 hO dX0_unlockBy_58 ?_
            refine zr_iconst (v := 4) hO dX0_unlockBy_60 (by decide) ?_
            refine zr_iload_2 hO dX0_unlockBy_61 ?_
            refine zV_pc (pc' := 62) rfl ?_
            refine zr_V2 (D := d) hO hRm hL (by omega) (by decide) (c := 4) (by decide) (zC_t hM hk) rfl rfl (e_X4_waitsAt (d := d - 1) htr hM (by omega) hk) zl_X0_88 zi_X4_waitsAt zs_X4_waitsAt zc_X4_waitsAt zn_X4 zd_X4_waitsAt (Nat.le_of_ble_eq_true rfl) dX0_unlockBy_62 (by omega) (by omega) ?_
            refine zr_ifb_eq (tgt := 84) hO dX0_unlockBy_65 (by decide) (fun c65 => ?_) (fun c65 => ?_)
            · refine zr_iinc_6 (v := 1) hO dX0_unlockBy_84 (by decide) (by decide) rfl ?_
              refine zr_goto (tgt := 44) hO dX0_unlockBy_87 (by decide) ?_
              refine zV_d7 ?_
              rw [nI_1]
              simp only [cB_heir, if_pos c48, if_neg (zif_f c65)] at ih
              first | exact ih | contradiction
            · rcases s with _ | sj
              · refine zr_nload_3 hO dX0_unlockBy_68 ?_
                refine zr_ifnullN (tgt := 81) hO dX0_unlockBy_69 (by decide) ?_
                refine zr_aload_7 hO dX0_unlockBy_81 ?_
                refine zr_astore_3 hO dX0_unlockBy_83 (by decide) rfl ?_
                refine zr_iinc_6 (v := 1) hO dX0_unlockBy_84 (by decide) (by decide) rfl ?_
                refine zr_goto (tgt := 44) hO dX0_unlockBy_87 (by decide) ?_
                refine zV_d7 ?_
                rw [nI_1]
                simp only [cB_heir, if_pos c48, if_pos c65] at ih
                first | exact ih | contradiction
              · have hsj : sj < 16 := hIk _ rfl
                refine zr_aload_3 hO dX0_unlockBy_68 ?_
                refine zr_ifnull hO dX0_unlockBy_69 ?_
                refine zr_aload_7 hO dX0_unlockBy_72 ?_
                refine zr_aload_3 hO dX0_unlockBy_74 ?_
                refine zr_V1 (D := d) hO hRm hL (by omega) (by decide) (c := 4) (by decide) (zC_t hM hk) rfl rfl (e_X4_inheritsAhead (d := d - 1) htr hM (by omega) hk hsj) zl_X0_151 zi_X4_inheritsAhead zs_X4_inheritsAhead zc_X4_inheritsAhead zn_X4 zd_X4_inheritsAhead (Nat.le_of_ble_eq_true rfl) dX0_unlockBy_75 (by omega) (by omega) ?_
                refine zr_ifb_eq (tgt := 84) hO dX0_unlockBy_78 (by decide) (fun c78 => ?_) (fun c78 => ?_)
                · refine zr_iinc_6 (v := 1) hO dX0_unlockBy_84 (by decide) (by decide) rfl ?_
                  refine zr_goto (tgt := 44) hO dX0_unlockBy_87 (by decide) ?_
                  refine zV_d7 ?_
                  rw [nI_1]
                  simp only [cB_heir, if_pos c48, if_pos c65, if_neg (zif_f c78)] at ih
                  first | exact ih | contradiction
                · refine zr_aload_7 hO dX0_unlockBy_81 ?_
                  refine zr_astore_3 hO dX0_unlockBy_83 (by decide) rfl ?_
                  refine zr_iinc_6 (v := 1) hO dX0_unlockBy_84 (by decide) (by decide) rfl ?_
                  refine zr_goto (tgt := 44) hO dX0_unlockBy_87 (by decide) ?_
                  refine zV_d7 ?_
                  rw [nI_1]
                  simp only [cB_heir, if_pos c48, if_pos c65, if_pos c78] at ih
                  first | exact ih | contradiction
        · intro hIk
          generalize hf9 : (List.range 16).foldl (fun s i => cB_heir (cF_lent M) q i s) none = r9 at hIk ⊢
          replace hf9 : cF_heir (cF_lent M) q = r9 := hf9
          refine zr_iload_6 hO dX0_unlockBy_44 ?_
          refine zr_iload_5 hO dX0_unlockBy_46 ?_
          refine zr_icmp_ge (tgt := 90) hO dX0_unlockBy_48 (by decide) (fun c48 => ?_) (fun c48 => ?_)
          · refine zr_aload_0 hO dX0_unlockBy_90 ?_
            refine zr_getfr (c := 0) hO (by decide) (by decide) zf_X0_35 (zC_0 hM) rfl rfl dX0_unlockBy_91 ?_
            refine zr_iload_2 hO dX0_unlockBy_94 ?_
            rcases r9 with _ | r9j
            · refine zr_nload_3 hO dX0_unlockBy_95 ?_
              refine zr_ifnonnullN hO dX0_unlockBy_96 ?_
              refine zr_iconst (v := (-1)) hO dX0_unlockBy_99 (by decide) ?_
              refine zr_goto (tgt := 107) hO dX0_unlockBy_100 (by decide) ?_
              refine zg_iast hO (zC_10 hM) (by decide) (by exact zin_c c1 c7 rfl) dX0_unlockBy_107 ?_
              refine zr_nload_3 hO dX0_unlockBy_108 ?_
              refine zr_ifnullN (tgt := 127) hO dX0_unlockBy_109 (by decide) ?_
              refine zV_pc (pc' := 127) rfl ?_
              exact zr_return hO hE dX0_unlockBy_127 (zpl_v (by first | ((simp only [cF_unlock, if_neg c1, if_pos c7, if_pos c20, hf9, if_neg c48]) <;> rfl) | contradiction))
            · have hr9j : r9j < 16 := hIk _ rfl
              refine zr_aload_3 hO dX0_unlockBy_95 ?_
              refine zr_ifnonnull (tgt := 103) hO dX0_unlockBy_96 (by decide) ?_
              refine zr_aload_3 hO dX0_unlockBy_103 ?_
              refine zg_getfi (c := 4) hO (zC_t hM hr9j) (by have := hr9j; unfold ztk; omega) (by decide) (by decide) zf_X0_85 rfl dX0_unlockBy_104 ?_
              refine zg_iast hO (zC_10 hM) (by decide) (by exact zin_c c1 c7 rfl) dX0_unlockBy_107 ?_
              refine zr_aload_3 hO dX0_unlockBy_108 ?_
              refine zr_ifnull hO dX0_unlockBy_109 ?_
              refine zV_pc (pc' := 112) rfl ?_
              refine zr_aload_3 hO dX0_unlockBy_112 ?_
              refine zr_dup hO dX0_unlockBy_113 rfl ?_
              refine zg_getfi (c := 4) hO (zC_t hM hr9j) (by have := hr9j; unfold ztk; omega) (by decide) (by decide) zf_X0_154 rfl dX0_unlockBy_114 ?_
              refine zr_iconst (v := 1) hO dX0_unlockBy_117 (by decide) ?_
              refine zr_iadd hO dX0_unlockBy_118 ?_
              refine zg_putfi (c := 4) hO (zC_t hM hr9j) (by have := hr9j; unfold ztk; omega) (by decide) (by decide) zf_X0_154 rfl rfl dX0_unlockBy_119 ?_
              refine zr_aload_0 hO dX0_unlockBy_122 ?_
              refine zV_pc (pc' := 123) rfl ?_
              refine zr_aload_3 hO dX0_unlockBy_123 ?_
              refine zr_V1 (D := d) hO hRm hL (by omega) (by decide) (c := 0) (by decide) (zC_0 hM) rfl rfl (e_X0_wake (d := d - 1) htr hM (by omega) hr9j) zl_X0_157 zi_X0_wake zs_X0_wake zc_X0_wake zn_X0 zd_X0_wake (Nat.le_of_ble_eq_true rfl) dX0_unlockBy_124 (by omega) (by omega) ?_
              exact zr_return hO hE dX0_unlockBy_127 (zpl_v (by first | ((simp only [cF_unlock, if_neg c1, if_pos c7, if_pos c20, hf9, if_neg c48]) <;> rfl) | contradiction))
          · exact absurd c48 (zlt_F (x := 16) (by decide))
      · exact zr_return hO hE dX0_unlockBy_23 (zpl_v (by first | ((simp only [cF_unlock, if_neg c1, if_pos c7, if_neg c20]) <;> rfl) | contradiction))
set_option maxRecDepth 100000 in
set_option maxHeartbeats 300000 in
theorem e_X0_finish {l : Launch} {G : zGm} {d n o : Nat} {ly : zLy} {τ : zTu} {σ M : zSg} {i : Nat}  (htr : l.stackTraces = false) (hM : zC ly o) (hd : 3 ≤ d) (hi : i < 16) : zEv l G d 0 0 (yX0_finish, cX0_finish, 3, none) [.ref o, .ref (o + ztk i)] (fun x => n ≤ x) ly τ (zwr σ o 95 M) (zPl n ly τ (zwr σ o 95 (cF_finish M i)) none) := by
  refine zEv_of (ls := [some (.ref o), some (.ref (o + ztk i)), none, none, none, none, none, none, none]) htr (by decide) (Nat.le_of_ble_eq_true rfl) rfl (fun X hO hE hN hRm hL hNm => ?_)
  have hO : zOk G X RX0 cX0_finish 3 := hO
  refine zr_aload_0 hO dX0_finish_0 ?_
  refine zr_aload_1 hO dX0_finish_1 ?_
  refine zr_V1 (D := d) hO hRm hL (by omega) (by decide) (c := 0) (by decide) (zC_0 hM) rfl rfl (e_X0_leaveProcessor (d := d - 1) htr hM (by omega) hi) zl_X0_132 zi_X0_leaveProcessor zs_X0_leaveProcessor zc_X0_leaveProcessor zn_X0 zd_X0_leaveProcessor (Nat.le_of_ble_eq_true rfl) dX0_finish_2 (by omega) (by omega) ?_
  refine zr_aload_1 hO dX0_finish_5 ?_
  refine zr_bipush (v := 6) hO dX0_finish_6 (by decide) ?_
  refine zg_putfi (c := 4) hO (zC_t hM hi) (by have := hi; unfold ztk; omega) (by decide) (by decide) zf_X0_82 rfl rfl dX0_finish_8 ?_
  refine zr_aload_1 hO dX0_finish_11 ?_
  refine zV_pc (pc' := 12) rfl ?_
  refine zr_getfr (c := 4) hO (by decide) (by decide) zf_X0_135 (zC_t hM hi) rfl rfl dX0_finish_12 ?_
  refine zr_aload_0 hO dX0_finish_15 ?_
  refine zg_getfi0 (c := 0) hO (zC_0 hM) (by decide) (by decide) (by decide) zf_X0_69 rfl dX0_finish_16 ?_
  refine zg_putfi (c := 3) hO (zC_y hM hi) (by have := hi; unfold ztk; omega) (by decide) (by decide) zf_X0_139 rfl rfl dX0_finish_19 ?_
  refine zr_iconst (v := 0) hO dX0_finish_22 (by decide) ?_
  refine zr_istore_2 hO dX0_finish_23 (by decide) rfl ?_
  refine z_for (P := fun k s => zV G X 3 0 0 (fun x => n ≤ x) ly τ (zwr σ o 95 s) 24 [some (.ref o), some (.ref (o + ztk i)), some (.int (nI k)), none, none, none, none, none, none] []) 6 (fun q s => cF_unlock s i (nI q)) (fun _ _ => True) (zup (zup (cF_leave M i) (ztk i) 5 6) (ztk i + 4) 4 ((zup (cF_leave M i) (ztk i) 5 6) 0 9)) trivial (fun _ _ _ _ => trivial) ?_ ?_
  · intro k s hk hIk ih
    refine zr_iload_2 hO dX0_finish_24 ?_
    refine zr_bipush (v := 6) hO dX0_finish_25 (by decide) ?_
    refine zr_icmp_ge (tgt := 42) hO dX0_finish_27 (by decide) (fun c27 => ?_) (fun c27 => ?_)
    · exact absurd (zlt_T (x := 6) (by decide) hk) c27
    · refine zr_aload_0 hO dX0_finish_30 ?_
      refine zr_aload_1 hO dX0_finish_31 ?_
      refine zr_iload_2 hO dX0_finish_32 ?_
      refine zr_V2 (D := d) hO hRm hL (by omega) (by decide) (c := 0) (by decide) (zC_0 hM) rfl rfl (e_X0_unlockBy (d := d - 1) htr hM (by omega) hi) zl_X0_144 zi_X0_unlockBy zs_X0_unlockBy zc_X0_unlockBy zn_X0 zd_X0_unlockBy (Nat.le_of_ble_eq_true rfl) dX0_finish_33 (by omega) (by omega) ?_
      refine zr_iinc_2 (v := 1) hO dX0_finish_36 (by decide) (by decide) rfl ?_
      refine zr_goto (tgt := 24) hO dX0_finish_39 (by decide) ?_
      rw [nI_1]
      exact ih
  · intro hIk
    refine zr_iload_2 hO dX0_finish_24 ?_
    refine zr_bipush (v := 6) hO dX0_finish_25 (by decide) ?_
    refine zr_icmp_ge (tgt := 42) hO dX0_finish_27 (by decide) (fun c27 => ?_) (fun c27 => ?_)
    · exact zr_return hO hE dX0_finish_42 (zpl_v (by first | ((simp only [cF_finish, if_neg c27]) <;> rfl) | contradiction))
    · exact absurd c27 (zlt_F (x := 6) (by decide))
set_option maxRecDepth 100000 in
set_option maxHeartbeats 400000 in
theorem e_X0_isStuck {l : Launch} {G : zGm} {d n o : Nat} {ly : zLy} {τ : zTu} {σ M : zSg} {i : Nat} (htr : l.stackTraces = false) (hM : zC ly o) (hd : 1 ≤ d) (hi : i < 16) :
    zEv l G d 0 0 (yX0_isStuck, cX0_isStuck, 4, some .boolean) [.ref o, .ref (o + ztk i)] (fun x => n ≤ x) ly τ (zwr σ o 95 M) (zPl n ly τ (zwr σ o 95 M) (some (.int (zb (cF_isStuck M i))))) := by
  refine zEv_of (ls := [some (.ref o), some (.ref (o + ztk i)), none, none, none, none, none, none, none]) htr (by decide) (Nat.le_of_ble_eq_true rfl) rfl (fun X hO hE hN hRm hL hNm => ?_)
  have hO : zOk G X RX0 cX0_isStuck 4 := hO
  have key4 : ∀ (j p : Nat) (r : Option Nat), p + j = 16 → zoI r → cF_chase M j r = cF_isStuck M i → zV G X 4 0 0 (fun x => n ≤ x) ly τ (zwr σ o 95 M) 4 [some (.ref o), some (.ref (o + ztk i)), some (zov o r), some (.int (nI p)), none, none, none, none, none] [] := by
    intro j
    induction j with
    | zero =>
      intro p r hp hr h
      rw [cF_chase] at h
      refine zr_iload_3 hO dX0_isStuck_4 ?_
      refine zr_bipush (v := 16) hO dX0_isStuck_5 (by decide) ?_
      refine zr_icmp_ge (tgt := 43) hO dX0_isStuck_7 (by decide) (fun c7 => ?_) (fun c7 => ?_)
      · rcases r with _ | rj
        · refine zr_nload_2 hO dX0_isStuck_43 ?_
          refine zr_ifnullN (tgt := 59) hO dX0_isStuck_44 (by decide) ?_
          refine zr_iconst (v := 0) hO dX0_isStuck_59 (by decide) ?_
          simp only [cF_nb, Bool.false_eq_true, if_false, if_true, eq_self] at h
          exact zr_zreturn hO hE (by decide) dX0_isStuck_60 (zpl_i (by rw [← h]; rfl) rfl)
        · have hrj : rj < 16 := hr _ rfl
          refine zr_aload_2 hO dX0_isStuck_43 ?_
          refine zr_ifnull hO dX0_isStuck_44 ?_
          refine zr_aload_2 hO dX0_isStuck_47 ?_
          refine zg_getfi (c := 4) hO (zC_t hM hrj) (by have := hrj; unfold ztk; omega) (by decide) (by decide) zf_X0_82 rfl dX0_isStuck_48 ?_
          refine zr_iconst (v := 4) hO dX0_isStuck_51 (by decide) ?_
          refine zr_icmp_ne (tgt := 59) hO dX0_isStuck_52 (by decide) (fun c52 => ?_) (fun c52 => ?_)
          · refine zr_iconst (v := 0) hO dX0_isStuck_59 (by decide) ?_
            simp only [cF_nb, Bool.false_eq_true, if_false, if_true, eq_self, if_neg c52] at h
            exact zr_zreturn hO hE (by decide) dX0_isStuck_60 (zpl_i (by rw [← h]; rfl) rfl)
          · refine zr_iconst (v := 1) hO dX0_isStuck_55 (by decide) ?_
            refine zr_goto (tgt := 60) hO dX0_isStuck_56 (by decide) ?_
            simp only [cF_nb, Bool.false_eq_true, if_false, if_true, eq_self, if_pos c52] at h
            exact zr_zreturn hO hE (by decide) dX0_isStuck_60 (zpl_i (by rw [← h]; rfl) rfl)
      · exact absurd c7 (by rw [show p = 16 by omega]; decide)
    | succ j ihj =>
      intro p r hp hr h
      rw [cF_chase] at h
      refine zr_iload_3 hO dX0_isStuck_4 ?_
      refine zr_bipush (v := 16) hO dX0_isStuck_5 (by decide) ?_
      refine zr_icmp_ge (tgt := 43) hO dX0_isStuck_7 (by decide) (fun c7 => ?_) (fun c7 => ?_)
      · exact absurd (zlt_T (x := 16) (by decide) (show p < 16 by omega)) c7
      · rcases r with _ | rj
        · refine zr_nload_2 hO dX0_isStuck_10 ?_
          refine zr_ifnullN (tgt := 22) hO dX0_isStuck_11 (by decide) ?_
          refine zr_iconst (v := 0) hO dX0_isStuck_22 (by decide) ?_
          simp only [cF_nb, Bool.false_eq_true, if_false, if_true, eq_self] at h
          exact zr_zreturn hO hE (by decide) dX0_isStuck_23 (zpl_i (by rw [← h]; rfl) rfl)
        · have hrj : rj < 16 := hr _ rfl
          refine zr_aload_2 hO dX0_isStuck_10 ?_
          refine zr_ifnull hO dX0_isStuck_11 ?_
          refine zr_aload_2 hO dX0_isStuck_14 ?_
          refine zg_getfi (c := 4) hO (zC_t hM hrj) (by have := hrj; unfold ztk; omega) (by decide) (by decide) zf_X0_82 rfl dX0_isStuck_15 ?_
          refine zr_iconst (v := 4) hO dX0_isStuck_18 (by decide) ?_
          refine zr_icmp_eq (tgt := 24) hO dX0_isStuck_19 (by decide) (fun c19 => ?_) (fun c19 => ?_)
          · refine zr_aload_0 hO dX0_isStuck_24 ?_
            refine zr_aload_0 hO dX0_isStuck_25 ?_
            refine zr_aload_2 hO dX0_isStuck_26 ?_
            refine zg_getfi (c := 4) hO (zC_t hM hrj) (by have := hrj; unfold ztk; omega) (by decide) (by decide) zf_X0_96 rfl dX0_isStuck_27 ?_
            refine zr_V1 (D := d) hO hRm hL (by omega) (by decide) (c := 0) (by decide) (zC_0 hM) rfl rfl (e_X0_holderOf (d := d - 1) htr hM (by omega)) zl_X0_99 zi_X0_holderOf zs_X0_holderOf zc_X0_holderOf zn_X0 zd_X0_holderOf (Nat.le_of_ble_eq_true rfl) dX0_isStuck_30 (by omega) (by omega) ?_
            refine zr_V1 (D := d) hO hRm hL (by omega) (by decide) (c := 0) (by decide) (zC_0 hM) rfl rfl (e_X0_taskAt (d := d - 1) htr hM (by omega)) zl_X0_103 zi_X0_taskAt zs_X0_taskAt zc_X0_taskAt zn_X0 zd_X0_taskAt (Nat.le_of_ble_eq_true rfl) dX0_isStuck_33 (by omega) (by omega) ?_
            generalize hq33 : cF_at _ = r33
            rcases r33 with _ | r33
            · refine zr_nstore_2 hO dX0_isStuck_36 (by decide) rfl ?_
              refine zr_iinc_3 (v := 1) hO dX0_isStuck_37 (by decide) (by decide) rfl ?_
              refine zr_goto (tgt := 4) hO dX0_isStuck_40 (by decide) ?_
              rw [nI_1]
              simp only [cF_nb, cF_nx, if_true, eq_self, if_pos c19] at h
              rw [hq33] at h
              exact ihj (p + 1) none (by omega) zoI_n h
            · have hr33 : r33 < 16 := cF_at_lt hq33
              refine zr_astore_2 hO dX0_isStuck_36 (by decide) rfl ?_
              refine zr_iinc_3 (v := 1) hO dX0_isStuck_37 (by decide) (by decide) rfl ?_
              refine zr_goto (tgt := 4) hO dX0_isStuck_40 (by decide) ?_
              rw [nI_1]
              simp only [cF_nb, cF_nx, if_true, eq_self, if_pos c19] at h
              rw [hq33] at h
              exact ihj (p + 1) (some r33) (by omega) (zoI_s hr33) h
          · refine zr_iconst (v := 0) hO dX0_isStuck_22 (by decide) ?_
            simp only [cF_nb, Bool.false_eq_true, if_false, if_true, eq_self, if_neg c19] at h
            exact zr_zreturn hO hE (by decide) dX0_isStuck_23 (zpl_i (by rw [← h]; rfl) rfl)
  refine zr_aload_1 hO dX0_isStuck_0 ?_
  refine zr_astore_2 hO dX0_isStuck_1 (by decide) rfl ?_
  refine zr_iconst (v := 0) hO dX0_isStuck_2 (by decide) ?_
  refine zr_istore_3 hO dX0_isStuck_3 (by decide) rfl ?_
  rw [← nI_0]
  exact key4 16 0 (some i) rfl (zoI_s hi) rfl
set_option maxRecDepth 100000 in
set_option maxHeartbeats 300000 in
theorem e_X0_stuckTasks {l : Launch} {G : zGm} {d n o : Nat} {ly : zLy} {τ : zTu} {σ M : zSg}  (htr : l.stackTraces = false) (hM : zC ly o) (hd : 2 ≤ d)  : zEv l G d 0 0 (yX0_stuckTasks, cX0_stuckTasks, 6, some .int) [.ref o] (fun x => n ≤ x) ly τ (zwr σ o 95 M) (zPl n ly τ (zwr σ o 95 M) (some (.int (cF_stuck M)))) := by
  refine zEv_of (ls := [some (.ref o), none, none, none, none, none, none, none, none]) htr (by decide) (Nat.le_of_ble_eq_true rfl) rfl (fun X hO hE hN hRm hL hNm => ?_)
  have hO : zOk G X RX0 cX0_stuckTasks 6 := hO
  refine zr_iconst (v := 0) hO dX0_stuckTasks_0 (by decide) ?_
  refine zr_istore_1 hO dX0_stuckTasks_1 (by decide) rfl ?_
  refine zr_aload_0 hO dX0_stuckTasks_2 ?_
  refine zr_getfr (c := 0) hO (by decide) (by decide) zf_X0_27 (zC_0 hM) rfl rfl dX0_stuckTasks_3 ?_
  refine zr_astore_2 hO dX0_stuckTasks_6 (by decide) rfl ?_
  refine zr_aload_2 hO dX0_stuckTasks_7 ?_
  refine zr_alenT (v := 16) hO (zC_8 hM) rfl dX0_stuckTasks_8 ?_
  refine zV_pc (pc' := 9) rfl ?_
  refine zr_istore_3 hO dX0_stuckTasks_9 (by decide) rfl ?_
  refine zr_iconst (v := 0) hO dX0_stuckTasks_10 (by decide) ?_
  refine zr_istore_4 hO dX0_stuckTasks_11 (by decide) rfl ?_
  refine z_for (P := fun k s => zV G X 6 0 0 (fun x => n ≤ x) ly τ (zwr σ o 95 M) 13 [some (.ref o), some (.int s), some (.ref (o + 8)), some (.int 16), some (.int (nI k)), none, none, none, none] []) 16 (cB_stuck M) (fun _ _ => True) 0 trivial (fun _ _ _ _ => trivial) ?_ ?_
  · intro k s hk hIk ih
    refine zr_iload_4 hO dX0_stuckTasks_13 ?_
    refine zr_iload_3 hO dX0_stuckTasks_15 ?_
    refine zr_icmp_ge (tgt := 50) hO dX0_stuckTasks_16 (by decide) (fun c16 => ?_) (fun c16 => ?_)
    · exact absurd (zlt_T (x := 16) (by decide) hk) c16
    · refine zr_aload_2 hO dX0_stuckTasks_19 ?_
      refine zr_iload_4 hO dX0_stuckTasks_20 ?_
      refine zr_aaldTN hO (zC_8 hM) hk dX0_stuckTasks_22 ?_
      refine zr_astore_5 hO dX0_stuckTasks_23 (by decide) rfl ?_
      refine zr_aload_0 hO dX0_stuckTasks_25 ?_
      refine zr_aload_5 hO dX0_stuckTasks_26 ?_
      refine zr_V1 (D := d) hO hRm hL (by omega) (by decide) (c := 0) (by decide) (zC_0 hM) rfl rfl (e_X0_isStuck (d := d - 1) htr hM (by omega) hk) zl_X0_92 zi_X0_isStuck zs_X0_isStuck zc_X0_isStuck zn_X0 zd_X0_isStuck (Nat.le_of_ble_eq_true rfl) dX0_stuckTasks_28 (by omega) (by omega) ?_
      refine zV_pc (pc' := 31) rfl ?_
      refine zr_ifb_eq (tgt := 44) hO dX0_stuckTasks_31 (by decide) (fun c31 => ?_) (fun c31 => ?_)
      · refine zr_iinc_4 (v := 1) hO dX0_stuckTasks_44 (by decide) (by decide) rfl ?_
        refine zr_goto (tgt := 13) hO dX0_stuckTasks_47 (by decide) ?_
        refine zV_d5 ?_
        rw [nI_1]
        simp only [cB_stuck, if_pos c16, if_neg (zif_f c31)] at ih
        first | exact ih | contradiction
      · refine zr_iload_1 hO dX0_stuckTasks_34 ?_
        refine zr_iconst (v := 1) hO dX0_stuckTasks_35 (by decide) ?_
        refine zr_aload_5 hO dX0_stuckTasks_36 ?_
        refine zg_getfi (c := 4) hO (zC_t hM hk) (by have := hk; unfold ztk; omega) (by decide) (by decide) zf_X0_85 rfl dX0_stuckTasks_38 ?_
        refine zr_ishl hO dX0_stuckTasks_41 ?_
        refine zr_ior hO dX0_stuckTasks_42 ?_
        refine zr_istore_1 hO dX0_stuckTasks_43 (by decide) rfl ?_
        refine zV_pc (pc' := 44) rfl ?_
        refine zr_iinc_4 (v := 1) hO dX0_stuckTasks_44 (by decide) (by decide) rfl ?_
        refine zr_goto (tgt := 13) hO dX0_stuckTasks_47 (by decide) ?_
        refine zV_d5 ?_
        rw [nI_1]
        simp only [cB_stuck, if_pos c16, if_pos c31] at ih
        first | exact ih | contradiction
  · intro hIk
    refine zr_iload_4 hO dX0_stuckTasks_13 ?_
    refine zr_iload_3 hO dX0_stuckTasks_15 ?_
    refine zr_icmp_ge (tgt := 50) hO dX0_stuckTasks_16 (by decide) (fun c16 => ?_) (fun c16 => ?_)
    · refine zr_iload_1 hO dX0_stuckTasks_50 ?_
      exact zr_ireturn hO hE dX0_stuckTasks_51 (zpl_i (by first | ((simp only [cF_stuck, if_neg c16]) <;> rfl) | contradiction) rfl)
    · exact absurd c16 (zlt_F (x := 16) (by decide))
