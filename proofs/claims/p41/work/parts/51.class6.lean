set_option maxRecDepth 100000 in
set_option maxHeartbeats 400000 in
theorem e_X0_isTaken {l : Launch} {G : zGm} {d n o : Nat} {ly : zLy} {τ : zTu} {σ M : zSg} {i : Nat} {c : Int32} (htr : l.stackTraces = false) (hM : zC ly o) (hd : 0 ≤ d) (hi : i < 16) :
    zEv l G d 0 0 (yX0_isTaken, cX0_isTaken, 4, some .boolean) [.ref o, .ref (o + ztk i), .int c] (fun x => n ≤ x) ly τ (zwr σ o 95 M) (zPl n ly τ (zwr σ o 95 M) (some (.int (zb (cF_isTaken M i c))))) := by
  refine zEv_of (ls := [some (.ref o), some (.ref (o + ztk i)), some (.int c), none, none, none, none, none, none]) htr (by decide) (Nat.le_of_ble_eq_true rfl) rfl (fun X hO hE hN hRm hL hNm => ?_)
  have hO : zOk G X RX0 cX0_isTaken 4 := hO
  have key2 : ∀ (j p : Nat), p + j = 3 → cF_tkn M i c j p = cF_isTaken M i c → zV G X 4 0 0 (fun x => n ≤ x) ly τ (zwr σ o 95 M) 2 [some (.ref o), some (.ref (o + ztk i)), some (.int c), some (.int (nI p)), none, none, none, none, none] [] := by
    intro j
    induction j with
    | zero =>
      intro p hp h
      rw [cF_tkn] at h
      refine zr_iload_3 hO dX0_isTaken_2 ?_
      refine zr_iload_2 hO dX0_isTaken_3 ?_
      refine zr_icmp_ge (tgt := 33) hO dX0_isTaken_4 (by decide) (fun c4 => ?_) (fun c4 => ?_)
      · refine zr_iconst (v := 0) hO dX0_isTaken_33 (by decide) ?_
        exact zr_zreturn hO hE (by decide) dX0_isTaken_34 (zpl_i (by rw [← h]; rfl) rfl)
      · refine zr_iload_3 hO dX0_isTaken_7 ?_
        refine zr_iconst (v := 3) hO dX0_isTaken_8 (by decide) ?_
        refine zr_icmp_ge (tgt := 33) hO dX0_isTaken_9 (by decide) (fun c9 => ?_) (fun c9 => ?_)
        · refine zr_iconst (v := 0) hO dX0_isTaken_33 (by decide) ?_
          exact zr_zreturn hO hE (by decide) dX0_isTaken_34 (zpl_i (by rw [← h]; rfl) rfl)
        · exact absurd c9 (by rw [show p = 3 by omega]; decide)
    | succ j ih =>
      intro p hp h
      rw [cF_tkn] at h
      refine zr_iload_3 hO dX0_isTaken_2 ?_
      refine zr_iload_2 hO dX0_isTaken_3 ?_
      refine zr_icmp_ge (tgt := 33) hO dX0_isTaken_4 (by decide) (fun c4 => ?_) (fun c4 => ?_)
      · refine zr_iconst (v := 0) hO dX0_isTaken_33 (by decide) ?_
        simp only [if_neg c4] at h
        exact zr_zreturn hO hE (by decide) dX0_isTaken_34 (zpl_i (by rw [← h]; rfl) rfl)
      · refine zr_iload_3 hO dX0_isTaken_7 ?_
        refine zr_iconst (v := 3) hO dX0_isTaken_8 (by decide) ?_
        refine zr_icmp_ge (tgt := 33) hO dX0_isTaken_9 (by decide) (fun c9 => ?_) (fun c9 => ?_)
        · exact absurd (zlt_T (x := 3) (by decide) (show p < 3 by omega)) c9
        · refine zr_aload_0 hO dX0_isTaken_12 ?_
          refine zr_getfr (c := 0) hO (by decide) (by decide) zf_X0_44 (zC_0 hM) rfl rfl dX0_isTaken_13 ?_
          refine zr_iload_3 hO dX0_isTaken_16 ?_
          refine zg_ialdN hO (zC_13 hM) (by decide) (by omega) (by decide) dX0_isTaken_17 ?_
          refine zr_aload_1 hO dX0_isTaken_18 ?_
          refine zg_getfi (c := 4) hO (zC_t hM hi) (by have := hi; unfold ztk; omega) (by decide) (by decide) zf_X0_85 rfl dX0_isTaken_19 ?_
          refine zr_icmp_ne (tgt := 27) hO dX0_isTaken_22 (by decide) (fun c22 => ?_) (fun c22 => ?_)
          · refine zr_iinc_3 (v := 1) hO dX0_isTaken_27 (by decide) (by decide) rfl ?_
            refine zr_goto (tgt := 2) hO dX0_isTaken_30 (by decide) ?_
            simp only [if_pos c4, if_neg c22] at h
            rw [nI_1]
            exact ih (p + 1) (by omega) h
          · refine zr_iconst (v := 1) hO dX0_isTaken_25 (by decide) ?_
            simp only [if_pos c4, if_pos c22] at h
            exact zr_zreturn hO hE (by decide) dX0_isTaken_26 (zpl_i (by rw [← h]; rfl) rfl)
  refine zr_iconst (v := 0) hO dX0_isTaken_0 (by decide) ?_
  refine zr_istore_3 hO dX0_isTaken_1 (by decide) rfl ?_
  rw [← nI_0]
  exact key2 3 0 rfl rfl
set_option maxRecDepth 100000 in
set_option maxHeartbeats 400000 in
theorem e_X0_switchTo {l : Launch} {G : zGm} {d n o : Nat} {ly : zLy} {τ : zTu} {σ M : zSg} {i : Nat} (htr : l.stackTraces = false) (hM : zC ly o) (hd : 0 ≤ d) (hi : i < 16) :
    zEv l G d 0 0 (yX0_switchTo, cX0_switchTo, 3, none) [.ref o, .ref (o + ztk i)] (fun x => n ≤ x) ly τ (zwr σ o 95 M) (zPl n ly τ (zwr σ o 95 (cF_switch M i)) none) := by
  refine zEv_of (ls := [some (.ref o), some (.ref (o + ztk i)), none, none, none, none, none, none, none]) htr (by decide) (Nat.le_of_ble_eq_true rfl) rfl (fun X hO hE hN hRm hL hNm => ?_)
  have hO : zOk G X RX0 cX0_switchTo 3 := hO
  have key2 : ∀ (j p : Nat), p + j = 3 → cF_sw M i j p = cF_switch M i → zV G X 3 0 0 (fun x => n ≤ x) ly τ (zwr σ o 95 M) 2 [some (.ref o), some (.ref (o + ztk i)), some (.int (nI p)), none, none, none, none, none, none] [] := by
    intro j
    induction j with
    | zero =>
      intro p hp h
      rw [cF_sw] at h
      refine zr_iload_2 hO dX0_switchTo_2 ?_
      refine zr_aload_0 hO dX0_switchTo_3 ?_
      refine zr_getfr (c := 0) hO (by decide) (by decide) zf_X0_12 (zC_0 hM) rfl rfl dX0_switchTo_4 ?_
      refine zg_getfi (c := 2) hO (zC_1 hM) (by decide) (by decide) (by decide) zf_X0_182 rfl dX0_switchTo_7 ?_
      refine zr_icmp_ge (tgt := 68) hO dX0_switchTo_10 (by decide) (fun c10 => ?_) (fun c10 => ?_)
      · exact zr_return hO hE dX0_switchTo_68 (zpl_v (by rw [← h]))
      · refine zr_iload_2 hO dX0_switchTo_13 ?_
        refine zr_iconst (v := 3) hO dX0_switchTo_14 (by decide) ?_
        refine zr_icmp_ge (tgt := 68) hO dX0_switchTo_15 (by decide) (fun c15 => ?_) (fun c15 => ?_)
        · exact zr_return hO hE dX0_switchTo_68 (zpl_v (by rw [← h]))
        · exact absurd c15 (by rw [show p = 3 by omega]; decide)
    | succ j ih =>
      intro p hp h
      rw [cF_sw] at h
      refine zr_iload_2 hO dX0_switchTo_2 ?_
      refine zr_aload_0 hO dX0_switchTo_3 ?_
      refine zr_getfr (c := 0) hO (by decide) (by decide) zf_X0_12 (zC_0 hM) rfl rfl dX0_switchTo_4 ?_
      refine zg_getfi (c := 2) hO (zC_1 hM) (by decide) (by decide) (by decide) zf_X0_182 rfl dX0_switchTo_7 ?_
      refine zr_icmp_ge (tgt := 68) hO dX0_switchTo_10 (by decide) (fun c10 => ?_) (fun c10 => ?_)
      · simp only [if_neg c10] at h
        exact zr_return hO hE dX0_switchTo_68 (zpl_v (by rw [← h]; first | rfl | done))
      · refine zr_iload_2 hO dX0_switchTo_13 ?_
        refine zr_iconst (v := 3) hO dX0_switchTo_14 (by decide) ?_
        refine zr_icmp_ge (tgt := 68) hO dX0_switchTo_15 (by decide) (fun c15 => ?_) (fun c15 => ?_)
        · exact absurd (zlt_T (x := 3) (by decide) (show p < 3 by omega)) c15
        · refine zr_aload_0 hO dX0_switchTo_18 ?_
          refine zr_getfr (c := 0) hO (by decide) (by decide) zf_X0_41 (zC_0 hM) rfl rfl dX0_switchTo_19 ?_
          refine zr_iload_2 hO dX0_switchTo_22 ?_
          refine zg_ialdN hO (zC_12 hM) (by decide) (by omega) (by decide) dX0_switchTo_23 ?_
          refine zr_iconst (v := (-1)) hO dX0_switchTo_24 (by decide) ?_
          refine zr_icmp_ne (tgt := 62) hO dX0_switchTo_25 (by decide) (fun c25 => ?_) (fun c25 => ?_)
          · refine zr_iinc_2 (v := 1) hO dX0_switchTo_62 (by decide) (by decide) rfl ?_
            refine zr_goto (tgt := 2) hO dX0_switchTo_65 (by decide) ?_
            simp only [if_pos c10, if_neg c25] at h
            rw [nI_1]
            exact ih (p + 1) (by omega) h
          · refine zr_aload_0 hO dX0_switchTo_28 ?_
            refine zr_getfr (c := 0) hO (by decide) (by decide) zf_X0_41 (zC_0 hM) rfl rfl dX0_switchTo_29 ?_
            refine zr_iload_2 hO dX0_switchTo_32 ?_
            refine zr_aload_1 hO dX0_switchTo_33 ?_
            refine zg_getfi (c := 4) hO (zC_t hM hi) (by have := hi; unfold ztk; omega) (by decide) (by decide) zf_X0_85 rfl dX0_switchTo_34 ?_
            refine zg_iastN hO (zC_12 hM) (by decide) (by omega) (by decide) dX0_switchTo_37 ?_
            refine zr_aload_1 hO dX0_switchTo_38 ?_
            refine zV_pc (pc' := 39) rfl ?_
            refine zr_iconst (v := 2) hO dX0_switchTo_39 (by decide) ?_
            refine zg_putfi (c := 4) hO (zC_t hM hi) (by have := hi; unfold ztk; omega) (by decide) (by decide) zf_X0_82 rfl rfl dX0_switchTo_40 ?_
            refine zr_aload_1 hO dX0_switchTo_43 ?_
            refine zr_iconst (v := 0) hO dX0_switchTo_44 (by decide) ?_
            refine zg_putfi (c := 4) hO (zC_t hM hi) (by have := hi; unfold ztk; omega) (by decide) (by decide) zf_X0_211 rfl rfl dX0_switchTo_45 ?_
            refine zr_aload_0 hO dX0_switchTo_48 ?_
            refine zr_getfr (c := 0) hO (by decide) (by decide) zf_X0_21 (zC_0 hM) rfl rfl dX0_switchTo_49 ?_
            refine zV_pc (pc' := 52) rfl ?_
            refine zr_dup hO dX0_switchTo_52 rfl ?_
            refine zg_getfi (c := 5) hO (zC_3 hM) (by decide) (by decide) (by decide) zf_X0_247 rfl dX0_switchTo_53 ?_
            refine zr_iconst (v := 1) hO dX0_switchTo_56 (by decide) ?_
            refine zr_iadd hO dX0_switchTo_57 ?_
            refine zg_putfi (c := 5) hO (zC_3 hM) (by decide) (by decide) (by decide) zf_X0_247 rfl rfl dX0_switchTo_58 ?_
            simp only [if_pos c10, if_pos c25] at h
            exact zr_return hO hE dX0_switchTo_61 (zpl_v (by rw [← h]; first | rfl | done))
  refine zr_iconst (v := 0) hO dX0_switchTo_0 (by decide) ?_
  refine zr_istore_2 hO dX0_switchTo_1 (by decide) rfl ?_
  rw [← nI_0]
  exact key2 3 0 rfl rfl
