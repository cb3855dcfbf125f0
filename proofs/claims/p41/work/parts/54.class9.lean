set_option maxRecDepth 100000 in
set_option maxHeartbeats 400000 in
theorem e_X0_passSteps {l : Launch} {G : zGm} {d n o : Nat} {ly : zLy} {τ : zTu} {σ M : zSg} {i : Nat} (htr : l.stackTraces = false) (hM : zC ly o) (hd : 4 ≤ d) (hi : i < 16) :
    zEv l G d 0 0 (yX0_passSteps, cX0_passSteps, 6, none) [.ref o, .ref (o + ztk i)] (fun x => n ≤ x) ly τ (zwr σ o 95 M) (zPl n ly τ (zwr σ o 95 (cF_steps M i)) none) := by
  refine zEv_of (ls := [some (.ref o), some (.ref (o + ztk i)), none, none, none, none, none, none, none]) htr (by decide) (Nat.le_of_ble_eq_true rfl) rfl (fun X hO hE hN hRm hL hNm => ?_)
  have hO : zOk G X RX0 cX0_passSteps 6 := hO
  have key2 : ∀ (j p : Nat) (M1 : zSg), p + j = 16 → cF_ps i j M1 = cF_steps M i → zV G X 6 0 0 (fun x => n ≤ x) ly τ (zwr σ o 95 M1) 2 [some (.ref o), some (.ref (o + ztk i)), some (.int (nI p)), none, none, none, none, none, none] [] := by
    intro j
    induction j with
    | zero =>
      intro p M1 hp h
      rw [cF_ps] at h
      refine zr_iload_2 hO dX0_passSteps_2 ?_
      refine zr_bipush (v := 16) hO dX0_passSteps_3 (by decide) ?_
      refine zr_icmp_ge (tgt := 188) hO dX0_passSteps_5 (by decide) (fun c5 => ?_) (fun c5 => ?_)
      · exact zr_return hO hE dX0_passSteps_188 (zpl_v (by rw [← h]))
      · exact absurd c5 (by rw [show p = 16 by omega]; decide)
    | succ j ih =>
      intro p M1 hp h
      rw [cF_ps] at h
      refine zr_iload_2 hO dX0_passSteps_2 ?_
      refine zr_bipush (v := 16) hO dX0_passSteps_3 (by decide) ?_
      refine zr_icmp_ge (tgt := 188) hO dX0_passSteps_5 (by decide) (fun c5 => ?_) (fun c5 => ?_)
      · exact absurd (zlt_T (x := 16) (by decide) (show p < 16 by omega)) c5
      · refine zr_aload_1 hO dX0_passSteps_8 ?_
        refine zr_ifnull hO dX0_passSteps_9 ?_
        refine zr_aload_1 hO dX0_passSteps_12 ?_
        refine zg_getfi (c := 4) hO (zC_t hM hi) (by have := hi; unfold ztk; omega) (by decide) (by decide) zf_X0_82 rfl dX0_passSteps_13 ?_
        refine zr_iconst (v := 2) hO dX0_passSteps_16 (by decide) ?_
        refine zr_icmp_ne (tgt := 188) hO dX0_passSteps_17 (by decide) (fun c17 => ?_) (fun c17 => ?_)
        · simp only [if_neg c17] at h
          exact zr_return hO hE dX0_passSteps_188 (zpl_v (by rw [← h]))
        · refine zr_aload_1 hO dX0_passSteps_20 ?_
          refine zg_getfi (c := 4) hO (zC_t hM hi) (by have := hi; unfold ztk; omega) (by decide) (by decide) zf_X0_154 rfl dX0_passSteps_21 ?_
          refine zr_istore_3 hO dX0_passSteps_24 (by decide) rfl ?_
          refine zr_aload_1 hO dX0_passSteps_25 ?_
          refine zr_getfr (c := 4) hO (by decide) (by decide) zf_X0_250 (zC_t hM hi) rfl rfl dX0_passSteps_26 ?_
          refine zr_iload_3 hO dX0_passSteps_29 ?_
          refine zr_V1 (D := d) hO hRm hL (by omega) (by decide) (c := 1) (by decide) (zC_p hM hi) rfl rfl (e_X1_codeAt (d := d - 1) htr hM (by omega) hi) zl_X0_254 zi_X1_codeAt zs_X1_codeAt zc_X1_codeAt zn_X1 zd_X1_codeAt (Nat.le_of_ble_eq_true rfl) dX0_passSteps_30 (by omega) (by omega) ?_
          refine zV_pc (pc' := 33) rfl ?_
          refine zr_istore_4 hO dX0_passSteps_33 (by decide) rfl ?_
          refine zr_aload_1 hO dX0_passSteps_35 ?_
          refine zr_getfr (c := 4) hO (by decide) (by decide) zf_X0_250 (zC_t hM hi) rfl rfl dX0_passSteps_36 ?_
          refine zr_iload_3 hO dX0_passSteps_39 ?_
          refine zr_V1 (D := d) hO hRm hL (by omega) (by decide) (c := 1) (by decide) (zC_p hM hi) rfl rfl (e_X1_numberAt (d := d - 1) htr hM (by omega) hi) zl_X0_259 zi_X1_numberAt zs_X1_numberAt zc_X1_numberAt zn_X1 zd_X1_numberAt (Nat.le_of_ble_eq_true rfl) dX0_passSteps_40 (by omega) (by omega) ?_
          refine zr_istore_5 hO dX0_passSteps_43 (by decide) rfl ?_
          refine zr_iload_4 hO dX0_passSteps_45 ?_
          refine zV_pc (pc' := 47) rfl ?_
          refine zr_if_ne (tgt := 51) hO dX0_passSteps_47 (by decide) (fun c47 => ?_) (fun c47 => ?_)
          · refine zr_aload_1 hO dX0_passSteps_51 ?_
            refine zr_iload_3 hO dX0_passSteps_52 ?_
            refine zr_iconst (v := 1) hO dX0_passSteps_53 (by decide) ?_
            refine zr_iadd hO dX0_passSteps_54 ?_
            refine zg_putfi (c := 4) hO (zC_t hM hi) (by have := hi; unfold ztk; omega) (by decide) (by decide) zf_X0_154 rfl rfl dX0_passSteps_55 ?_
            simp only [if_pos c17, if_neg c47] at h
            generalize hcd : cF_codeAt M1 i (M1 (ztk i) 6) = cd at h c47 ⊢
            generalize hnm : cF_numAt M1 i (M1 (ztk i) 6) = nm at h ⊢
            generalize hMn : zup M1 (ztk i) 6 (M1 (ztk i) 6 + 1) = Mn at h ⊢
            generalize hat : M1 (ztk i) 6 = at9 at h ⊢
            have k161 : ∀ M2, M2 = cF_do Mn i cd nm → zV G X 6 0 0 (fun x => n ≤ x) ly τ (zwr σ o 95 M2) 161 [some (.ref o), some (.ref (o + ztk i)), some (.int (nI p)), some (.int at9), some (.int cd), some (.int nm), none, none, none] [] := by
              intro M2 hM2
              rw [← hM2] at h
              refine zr_aload_1 hO dX0_passSteps_161 ?_
              refine zg_getfi (c := 4) hO (zC_t hM hi) (by have := hi; unfold ztk; omega) (by decide) (by decide) zf_X0_82 rfl dX0_passSteps_162 ?_
              refine zr_iconst (v := 4) hO dX0_passSteps_165 (by decide) ?_
              refine zr_icmp_eq (tgt := 177) hO dX0_passSteps_166 (by decide) (fun c166 => ?_) (fun c166 => ?_)
              · refine zr_aload_1 hO dX0_passSteps_177 ?_
                refine zr_iload_3 hO dX0_passSteps_178 ?_
                refine zg_putfi (c := 4) hO (zC_t hM hi) (by have := hi; unfold ztk; omega) (by decide) (by decide) zf_X0_154 rfl rfl dX0_passSteps_179 ?_
                refine zr_iinc_2 (v := 1) hO dX0_passSteps_182 (by decide) (by decide) rfl ?_
                refine zr_goto (tgt := 2) hO dX0_passSteps_185 (by decide) ?_
                refine zV_d3 ?_
                refine zV_d4 ?_
                refine zV_d5 ?_
                simp only [if_pos c166] at h
                rw [nI_1]
                exact ih (p + 1) _ (by omega) h
              · refine zr_aload_1 hO dX0_passSteps_169 ?_
                refine zg_getfi (c := 4) hO (zC_t hM hi) (by have := hi; unfold ztk; omega) (by decide) (by decide) zf_X0_82 rfl dX0_passSteps_170 ?_
                refine zr_iconst (v := 5) hO dX0_passSteps_173 (by decide) ?_
                refine zr_icmp_ne (tgt := 182) hO dX0_passSteps_174 (by decide) (fun c174 => ?_) (fun c174 => ?_)
                · refine zr_iinc_2 (v := 1) hO dX0_passSteps_182 (by decide) (by decide) rfl ?_
                  refine zr_goto (tgt := 2) hO dX0_passSteps_185 (by decide) ?_
                  refine zV_d3 ?_
                  refine zV_d4 ?_
                  refine zV_d5 ?_
                  simp only [if_neg c166, if_neg c174] at h
                  rw [nI_1]
                  exact ih (p + 1) _ (by omega) h
                · refine zr_aload_1 hO dX0_passSteps_177 ?_
                  refine zr_iload_3 hO dX0_passSteps_178 ?_
                  refine zg_putfi (c := 4) hO (zC_t hM hi) (by have := hi; unfold ztk; omega) (by decide) (by decide) zf_X0_154 rfl rfl dX0_passSteps_179 ?_
                  refine zr_iinc_2 (v := 1) hO dX0_passSteps_182 (by decide) (by decide) rfl ?_
                  refine zr_goto (tgt := 2) hO dX0_passSteps_185 (by decide) ?_
                  refine zV_d3 ?_
                  refine zV_d4 ?_
                  refine zV_d5 ?_
                  simp only [if_neg c166, if_pos c174] at h
                  rw [nI_1]
                  exact ih (p + 1) _ (by omega) h
            refine zr_iload_4 hO dX0_passSteps_58 ?_
            by_cases c60_1 : cd = 1
            · refine zr_tableIn (tgt := 96) hO dX0_passSteps_60 (by rw [c60_1]; decide) (by rw [c60_1]; decide) (by rw [c60_1]; rfl) (by decide) ?_
              refine zr_aload_0 hO dX0_passSteps_96 ?_
              refine zr_aload_1 hO dX0_passSteps_97 ?_
              refine zr_iconst (v := 3) hO dX0_passSteps_98 (by decide) ?_
              refine zr_aload_0 hO dX0_passSteps_99 ?_
              refine zg_getfi0 (c := 0) hO (zC_0 hM) (by decide) (by decide) (by decide) zf_X0_69 rfl dX0_passSteps_100 ?_
              refine zr_iload_5 hO dX0_passSteps_103 ?_
              refine zr_iadd hO dX0_passSteps_105 ?_
              refine zV_pc (pc' := 106) rfl ?_
              refine zr_V3 (D := d) hO hRm hL (by omega) (by decide) (c := 0) (by decide) (zC_0 hM) rfl rfl (e_X0_waitFor (d := d - 1) htr hM (by omega) hi) zl_X0_262 zi_X0_waitFor zs_X0_waitFor zc_X0_waitFor zn_X0 zd_X0_waitFor (Nat.le_of_ble_eq_true rfl) dX0_passSteps_106 (by omega) (by omega) ?_
              refine zr_goto (tgt := 161) hO dX0_passSteps_109 (by decide) ?_
              exact k161 _ (by simp only [cF_do, if_pos c60_1])
            by_cases c60_2 : cd = 2
            · refine zr_tableIn (tgt := 112) hO dX0_passSteps_60 (by rw [c60_2]; decide) (by rw [c60_2]; decide) (by rw [c60_2]; rfl) (by decide) ?_
              refine zr_aload_0 hO dX0_passSteps_112 ?_
              refine zr_aload_1 hO dX0_passSteps_113 ?_
              refine zr_iload_5 hO dX0_passSteps_114 ?_
              refine zr_V2 (D := d) hO hRm hL (by omega) (by decide) (c := 0) (by decide) (zC_0 hM) rfl rfl (e_X0_lockBy (d := d - 1) htr hM (by omega) hi) zl_X0_266 zi_X0_lockBy zs_X0_lockBy zc_X0_lockBy zn_X0 zd_X0_lockBy (Nat.le_of_ble_eq_true rfl) dX0_passSteps_116 (by omega) (by omega) ?_
              refine zr_goto (tgt := 161) hO dX0_passSteps_119 (by decide) ?_
              exact k161 _ (by simp only [cF_do, if_neg (show ¬ cd = 1 by rw [c60_2]; decide), if_pos c60_2])
            by_cases c60_3 : cd = 3
            · refine zr_tableIn (tgt := 122) hO dX0_passSteps_60 (by rw [c60_3]; decide) (by rw [c60_3]; decide) (by rw [c60_3]; rfl) (by decide) ?_
              refine zr_aload_0 hO dX0_passSteps_122 ?_
              refine zr_aload_1 hO dX0_passSteps_123 ?_
              refine zr_iload_5 hO dX0_passSteps_124 ?_
              refine zr_V2 (D := d) hO hRm hL (by omega) (by decide) (c := 0) (by decide) (zC_0 hM) rfl rfl (e_X0_unlockBy (d := d - 1) htr hM (by omega) hi) zl_X0_144 zi_X0_unlockBy zs_X0_unlockBy zc_X0_unlockBy zn_X0 zd_X0_unlockBy (Nat.le_of_ble_eq_true rfl) dX0_passSteps_126 (by omega) (by omega) ?_
              refine zr_goto (tgt := 161) hO dX0_passSteps_129 (by decide) ?_
              exact k161 _ (by simp only [cF_do, if_neg (show ¬ cd = 1 by rw [c60_3]; decide), if_neg (show ¬ cd = 2 by rw [c60_3]; decide), if_pos c60_3])
            by_cases c60_4 : cd = 4
            · refine zr_tableIn (tgt := 132) hO dX0_passSteps_60 (by rw [c60_4]; decide) (by rw [c60_4]; decide) (by rw [c60_4]; rfl) (by decide) ?_
              refine zr_aload_0 hO dX0_passSteps_132 ?_
              refine zr_iload_5 hO dX0_passSteps_133 ?_
              refine zr_V1 (D := d) hO hRm hL (by omega) (by decide) (c := 0) (by decide) (zC_0 hM) rfl rfl (e_X0_giveSignal (d := d - 1) htr hM (by omega)) zl_X0_269 zi_X0_giveSignal zs_X0_giveSignal zc_X0_giveSignal zn_X0 zd_X0_giveSignal (Nat.le_of_ble_eq_true rfl) dX0_passSteps_135 (by omega) (by omega) ?_
              refine zr_goto (tgt := 161) hO dX0_passSteps_138 (by decide) ?_
              exact k161 _ (by simp only [cF_do, if_neg (show ¬ cd = 1 by rw [c60_4]; decide), if_neg (show ¬ cd = 2 by rw [c60_4]; decide), if_neg (show ¬ cd = 3 by rw [c60_4]; decide), if_pos c60_4])
            by_cases c60_5 : cd = 5
            · refine zr_tableIn (tgt := 141) hO dX0_passSteps_60 (by rw [c60_5]; decide) (by rw [c60_5]; decide) (by rw [c60_5]; rfl) (by decide) ?_
              refine zr_aload_0 hO dX0_passSteps_141 ?_
              refine zr_aload_1 hO dX0_passSteps_142 ?_
              refine zr_iload_5 hO dX0_passSteps_143 ?_
              refine zr_V2 (D := d) hO hRm hL (by omega) (by decide) (c := 0) (by decide) (zC_0 hM) rfl rfl (e_X0_awaitBy (d := d - 1) htr hM (by omega) hi) zl_X0_272 zi_X0_awaitBy zs_X0_awaitBy zc_X0_awaitBy zn_X0 zd_X0_awaitBy (Nat.le_of_ble_eq_true rfl) dX0_passSteps_145 (by omega) (by omega) ?_
              refine zr_goto (tgt := 161) hO dX0_passSteps_148 (by decide) ?_
              exact k161 _ (by simp only [cF_do, if_neg (show ¬ cd = 1 by rw [c60_5]; decide), if_neg (show ¬ cd = 2 by rw [c60_5]; decide), if_neg (show ¬ cd = 3 by rw [c60_5]; decide), if_neg (show ¬ cd = 4 by rw [c60_5]; decide), if_pos c60_5])
            refine zr_tableOut (tgt := 151) hO dX0_passSteps_60 (by have h1 := lv_neT c60_1 (show (1 : Int32).toInt = 1 from rfl); have h2 := lv_neT c60_2 (show (2 : Int32).toInt = 2 from rfl); have h3 := lv_neT c60_3 (show (3 : Int32).toInt = 3 from rfl); have h4 := lv_neT c60_4 (show (4 : Int32).toInt = 4 from rfl); have h5 := lv_neT c60_5 (show (5 : Int32).toInt = 5 from rfl); omega) (by decide) ?_
            refine zr_aload_0 hO dX0_passSteps_151 ?_
            refine zr_aload_1 hO dX0_passSteps_152 ?_
            refine zr_V1 (D := d) hO hRm hL (by omega) (by decide) (c := 0) (by decide) (zC_0 hM) rfl rfl (e_X0_leaveProcessor (d := d - 1) htr hM (by omega) hi) zl_X0_132 zi_X0_leaveProcessor zs_X0_leaveProcessor zc_X0_leaveProcessor zn_X0 zd_X0_leaveProcessor (Nat.le_of_ble_eq_true rfl) dX0_passSteps_153 (by omega) (by omega) ?_
            refine zr_aload_0 hO dX0_passSteps_156 ?_
            refine zr_aload_1 hO dX0_passSteps_157 ?_
            refine zr_V1 (D := d) hO hRm hL (by omega) (by decide) (c := 0) (by decide) (zC_0 hM) rfl rfl (e_X0_makeReady (d := d - 1) htr hM (by omega) hi) zl_X0_123 zi_X0_makeReady zs_X0_makeReady zc_X0_makeReady zn_X0 zd_X0_makeReady (Nat.le_of_ble_eq_true rfl) dX0_passSteps_158 (by omega) (by omega) ?_
            exact k161 _ (by simp only [cF_do, if_neg c60_1, if_neg c60_2, if_neg c60_3, if_neg c60_4, if_neg c60_5])
          · simp only [if_pos c17, if_pos c47] at h
            exact zr_return hO hE dX0_passSteps_50 (zpl_v (by rw [← h]))
  refine zr_iconst (v := 0) hO dX0_passSteps_0 (by decide) ?_
  refine zr_istore_2 hO dX0_passSteps_1 (by decide) rfl ?_
  rw [← nI_0]
  exact key2 16 0 M rfl rfl
set_option maxRecDepth 100000 in
set_option maxHeartbeats 400000 in
theorem e_X0_passStepsN {l : Launch} {G : zGm} {d n o : Nat} {ly : zLy} {τ : zTu} {σ M : zSg}  (htr : l.stackTraces = false) (hM : zC ly o) (hd : 0 ≤ d)  :
    zEv l G d 0 0 (yX0_passSteps, cX0_passSteps, 6, none) [.ref o, .null] (fun x => n ≤ x) ly τ (zwr σ o 95 M) (zPl n ly τ (zwr σ o 95 M) none) := by
  refine zEv_of (ls := [some (.ref o), some .null, none, none, none, none, none, none, none]) htr (by decide) (Nat.le_of_ble_eq_true rfl) rfl (fun X hO hE hN hRm hL hNm => ?_)
  have hO : zOk G X RX0 cX0_passSteps 6 := hO
  refine zr_iconst (v := 0) hO dX0_passSteps_0 (by decide) ?_
  refine zr_istore_2 hO dX0_passSteps_1 (by decide) rfl ?_
  refine zr_iload_2 hO dX0_passSteps_2 ?_
  refine zr_bipush (v := 16) hO dX0_passSteps_3 (by decide) ?_
  refine zr_icmp_ge (tgt := 188) hO dX0_passSteps_5 (by decide) (fun c => absurd (show (0 : Int32) < 16 by decide) c) (fun c => ?_)
  refine zr_nload_1 hO dX0_passSteps_8 ?_
  refine zr_ifnullN (tgt := 188) hO dX0_passSteps_9 (by decide) ?_
  exact zr_return hO hE dX0_passSteps_188 (zpl_v rfl)
