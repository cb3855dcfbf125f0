set_option maxRecDepth 100000 in
set_option maxHeartbeats 4000000 in
theorem e_X1_codeAt {l : Launch} {G : zGm} {d n o : Nat} {ly : zLy} {τ : zTu} {σ M : zSg} {i : Nat} {x : Int32} (htr : l.stackTraces = false) (hM : zC ly o) (hd : 0 ≤ d) (hi : i < 16)  : zEv l G d 0 0 (yX1_codeAt, cX1_codeAt, 2, some .int) [.ref (o + (ztk i + 1)), .int x] (fun x => n ≤ x) ly τ (zwr σ o 95 M) (zPl n ly τ (zwr σ o 95 M) (some (.int (cF_codeAt M i x)))) := by
  refine zEv_of (ls := [some (.ref (o + (ztk i + 1))), some (.int x), none, none, none, none, none, none, none]) htr (by decide) (Nat.le_of_ble_eq_true rfl) rfl (fun X hO hE hN hRm hL hNm => ?_)
  have hO : zOk G X RX1 cX1_codeAt 2 := hO
  refine zr_iload_1 hO dX1_codeAt_0 ?_
  refine zr_if_lt (tgt := 19) hO dX1_codeAt_1 (by decide) (fun c1 => ?_) (fun c1 => ?_)
  · refine zr_iconst (v := 0) hO dX1_codeAt_19 (by decide) ?_
    exact zr_ireturn hO hE dX1_codeAt_20 (zpl_i (by first | ((simp only [cF_codeAt, if_pos c1]) <;> rfl) | contradiction) rfl)
  · refine zr_iload_1 hO dX1_codeAt_4 ?_
    refine zr_bipush (v := 16) hO dX1_codeAt_5 (by decide) ?_
    refine zr_icmp_ge (tgt := 19) hO dX1_codeAt_7 (by decide) (fun c7 => ?_) (fun c7 => ?_)
    · refine zr_iconst (v := 0) hO dX1_codeAt_19 (by decide) ?_
      exact zr_ireturn hO hE dX1_codeAt_20 (zpl_i (by first | ((simp only [cF_codeAt, if_neg c1, if_neg c7]) <;> rfl) | contradiction) rfl)
    · refine zr_aload_0 hO dX1_codeAt_10 ?_
      refine zr_getfr (c := 1) hO (by decide) (by decide) zf_X1_15 (zC_p hM hi) rfl rfl dX1_codeAt_11 ?_
      refine zr_iload_1 hO dX1_codeAt_14 ?_
      refine zg_iald hO (zC_c hM hi) (by have := hi; unfold ztk; omega) (by first | assumption | exact zin_c (by assumption) (by assumption) rfl) dX1_codeAt_15 ?_
      refine zr_goto (tgt := 20) hO dX1_codeAt_16 (by decide) ?_
      exact zr_ireturn hO hE dX1_codeAt_20 (zpl_i (by first | ((simp only [cF_codeAt, if_neg c1, if_pos c7]) <;> rfl) | contradiction) rfl)
set_option maxRecDepth 100000 in
set_option maxHeartbeats 4000000 in
theorem e_X1_numberAt {l : Launch} {G : zGm} {d n o : Nat} {ly : zLy} {τ : zTu} {σ M : zSg} {i : Nat} {x : Int32} (htr : l.stackTraces = false) (hM : zC ly o) (hd : 0 ≤ d) (hi : i < 16)  : zEv l G d 0 0 (yX1_numberAt, cX1_numberAt, 2, some .int) [.ref (o + (ztk i + 1)), .int x] (fun x => n ≤ x) ly τ (zwr σ o 95 M) (zPl n ly τ (zwr σ o 95 M) (some (.int (cF_numAt M i x)))) := by
  refine zEv_of (ls := [some (.ref (o + (ztk i + 1))), some (.int x), none, none, none, none, none, none, none]) htr (by decide) (Nat.le_of_ble_eq_true rfl) rfl (fun X hO hE hN hRm hL hNm => ?_)
  have hO : zOk G X RX1 cX1_numberAt 2 := hO
  refine zr_iload_1 hO dX1_numberAt_0 ?_
  refine zr_if_lt (tgt := 19) hO dX1_numberAt_1 (by decide) (fun c1 => ?_) (fun c1 => ?_)
  · refine zr_iconst (v := 0) hO dX1_numberAt_19 (by decide) ?_
    exact zr_ireturn hO hE dX1_numberAt_20 (zpl_i (by first | ((simp only [cF_numAt, if_pos c1]) <;> rfl) | contradiction) rfl)
  · refine zr_iload_1 hO dX1_numberAt_4 ?_
    refine zr_bipush (v := 16) hO dX1_numberAt_5 (by decide) ?_
    refine zr_icmp_ge (tgt := 19) hO dX1_numberAt_7 (by decide) (fun c7 => ?_) (fun c7 => ?_)
    · refine zr_iconst (v := 0) hO dX1_numberAt_19 (by decide) ?_
      exact zr_ireturn hO hE dX1_numberAt_20 (zpl_i (by first | ((simp only [cF_numAt, if_neg c1, if_neg c7]) <;> rfl) | contradiction) rfl)
    · refine zr_aload_0 hO dX1_numberAt_10 ?_
      refine zr_getfr (c := 1) hO (by decide) (by decide) zf_X1_19 (zC_p hM hi) rfl rfl dX1_numberAt_11 ?_
      refine zr_iload_1 hO dX1_numberAt_14 ?_
      refine zg_iald hO (zC_n hM hi) (by have := hi; unfold ztk; omega) (by first | assumption | exact zin_c (by assumption) (by assumption) rfl) dX1_numberAt_15 ?_
      refine zr_goto (tgt := 20) hO dX1_numberAt_16 (by decide) ?_
      exact zr_ireturn hO hE dX1_numberAt_20 (zpl_i (by first | ((simp only [cF_numAt, if_neg c1, if_pos c7]) <;> rfl) | contradiction) rfl)
set_option maxRecDepth 100000 in
set_option maxHeartbeats 4000000 in
theorem e_X1_endsWithRun {l : Launch} {G : zGm} {d n o : Nat} {ly : zLy} {τ : zTu} {σ M : zSg} {i : Nat}  (htr : l.stackTraces = false) (hM : zC ly o) (hd : 1 ≤ d) (hi : i < 16)  : zEv l G d 0 0 (yX1_endsWithRun, cX1_endsWithRun, 1, some .boolean) [.ref (o + (ztk i + 1))] (fun x => n ≤ x) ly τ (zwr σ o 95 M) (zPl n ly τ (zwr σ o 95 M) (some (.int (zb (cF_endsRun M i))))) := by
  refine zEv_of (ls := [some (.ref (o + (ztk i + 1))), none, none, none, none, none, none, none, none]) htr (by decide) (Nat.le_of_ble_eq_true rfl) rfl (fun X hO hE hN hRm hL hNm => ?_)
  have hO : zOk G X RX1 cX1_endsWithRun 1 := hO
  refine zr_aload_0 hO dX1_endsWithRun_0 ?_
  refine zg_getfi (c := 1) hO (zC_p hM hi) (by have := hi; unfold ztk; omega) (by decide) (by decide) zf_X1_22 rfl dX1_endsWithRun_1 ?_
  refine zr_if_le (tgt := 24) hO dX1_endsWithRun_4 (by decide) (fun c4 => ?_) (fun c4 => ?_)
  · refine zr_iconst (v := 0) hO dX1_endsWithRun_24 (by decide) ?_
    exact zr_zreturn hO hE (by decide) dX1_endsWithRun_25 (zpl_i (by first | ((simp only [cF_endsRun, if_neg c4]) <;> rfl) | contradiction) rfl)
  · refine zr_aload_0 hO dX1_endsWithRun_7 ?_
    refine zr_aload_0 hO dX1_endsWithRun_8 ?_
    refine zg_getfi (c := 1) hO (zC_p hM hi) (by have := hi; unfold ztk; omega) (by decide) (by decide) zf_X1_22 rfl dX1_endsWithRun_9 ?_
    refine zr_iconst (v := 1) hO dX1_endsWithRun_12 (by decide) ?_
    refine zr_isub hO dX1_endsWithRun_13 ?_
    refine zr_V1 (D := d) hO hRm hL (by omega) (by decide) (c := 1) (by decide) (zC_p hM hi) rfl rfl (e_X1_codeAt (d := d - 1) htr hM (by omega) hi) zl_X1_31 zi_X1_codeAt zs_X1_codeAt zc_X1_codeAt zn_X1 zd_X1_codeAt (Nat.le_of_ble_eq_true rfl) dX1_endsWithRun_14 (by omega) (by omega) ?_
    refine zr_if_ne (tgt := 24) hO dX1_endsWithRun_17 (by decide) (fun c17 => ?_) (fun c17 => ?_)
    · refine zr_iconst (v := 0) hO dX1_endsWithRun_24 (by decide) ?_
      exact zr_zreturn hO hE (by decide) dX1_endsWithRun_25 (zpl_i (by first | ((simp only [cF_endsRun, if_pos c4, if_neg c17]) <;> rfl) | contradiction) rfl)
    · refine zr_iconst (v := 1) hO dX1_endsWithRun_20 (by decide) ?_
      refine zr_goto (tgt := 25) hO dX1_endsWithRun_21 (by decide) ?_
      exact zr_zreturn hO hE (by decide) dX1_endsWithRun_25 (zpl_i (by first | ((simp only [cF_endsRun, if_pos c4, if_pos c17]) <;> rfl) | contradiction) rfl)
set_option maxRecDepth 100000 in
set_option maxHeartbeats 4000000 in
theorem e_X1_append {l : Launch} {G : zGm} {d n o : Nat} {ly : zLy} {τ : zTu} {σ M : zSg} {i : Nat} {a b : Int32} (htr : l.stackTraces = false) (hM : zC ly o) (hd : 0 ≤ d) (hi : i < 16)  : zEv l G d 0 0 (yX1_append, cX1_append, 3, none) [.ref (o + (ztk i + 1)), .int a, .int b] (fun x => n ≤ x) ly τ (zwr σ o 95 M) (zPl n ly τ (zwr σ o 95 (cF_append M i a b)) none) := by
  refine zEv_of (ls := [some (.ref (o + (ztk i + 1))), some (.int a), some (.int b), none, none, none, none, none, none]) htr (by decide) (Nat.le_of_ble_eq_true rfl) rfl (fun X hO hE hN hRm hL hNm => ?_)
  have hO : zOk G X RX1 cX1_append 3 := hO
  refine zr_aload_0 hO dX1_append_0 ?_
  refine zg_getfi (c := 1) hO (zC_p hM hi) (by have := hi; unfold ztk; omega) (by decide) (by decide) zf_X1_22 rfl dX1_append_1 ?_
  refine zr_if_lt (tgt := 46) hO dX1_append_4 (by decide) (fun c4 => ?_) (fun c4 => ?_)
  · exact zr_return hO hE dX1_append_46 (zpl_v (by first | ((simp only [cF_append, if_pos c4]) <;> rfl) | contradiction))
  · refine zr_aload_0 hO dX1_append_7 ?_
    refine zg_getfi (c := 1) hO (zC_p hM hi) (by have := hi; unfold ztk; omega) (by decide) (by decide) zf_X1_22 rfl dX1_append_8 ?_
    refine zr_bipush (v := 16) hO dX1_append_11 (by decide) ?_
    refine zr_icmp_ge (tgt := 46) hO dX1_append_13 (by decide) (fun c13 => ?_) (fun c13 => ?_)
    · exact zr_return hO hE dX1_append_46 (zpl_v (by first | ((simp only [cF_append, if_neg c4, if_neg c13]) <;> rfl) | contradiction))
    · refine zr_aload_0 hO dX1_append_16 ?_
      refine zr_getfr (c := 1) hO (by decide) (by decide) zf_X1_15 (zC_p hM hi) rfl rfl dX1_append_17 ?_
      refine zr_aload_0 hO dX1_append_20 ?_
      refine zg_getfi (c := 1) hO (zC_p hM hi) (by have := hi; unfold ztk; omega) (by decide) (by decide) zf_X1_22 rfl dX1_append_21 ?_
      refine zr_iload_1 hO dX1_append_24 ?_
      refine zg_iast hO (zC_c hM hi) (by have := hi; unfold ztk; omega) (by exact zin_c c4 c13 rfl) dX1_append_25 ?_
      refine zr_aload_0 hO dX1_append_26 ?_
      refine zV_pc (pc' := 27) rfl ?_
      refine zr_getfr (c := 1) hO (by decide) (by decide) zf_X1_19 (zC_p hM hi) rfl rfl dX1_append_27 ?_
      refine zr_aload_0 hO dX1_append_30 ?_
      refine zg_getfi (c := 1) hO (zC_p hM hi) (by have := hi; unfold ztk; omega) (by decide) (by decide) zf_X1_22 rfl dX1_append_31 ?_
      refine zr_iload_2 hO dX1_append_34 ?_
      refine zg_iast hO (zC_n hM hi) (by have := hi; unfold ztk; omega) (by rw [zup_nf _ (by omega)]; exact zin_c c4 c13 rfl) dX1_append_35 ?_
      refine zr_aload_0 hO dX1_append_36 ?_
      refine zr_dup hO dX1_append_37 rfl ?_
      refine zV_pc (pc' := 38) rfl ?_
      refine zg_getfi (c := 1) hO (zC_p hM hi) (by have := hi; unfold ztk; omega) (by decide) (by decide) zf_X1_22 rfl dX1_append_38 ?_
      refine zr_iconst (v := 1) hO dX1_append_41 (by decide) ?_
      refine zr_iadd hO dX1_append_42 ?_
      refine zg_putfi (c := 1) hO (zC_p hM hi) (by have := hi; unfold ztk; omega) (by decide) (by decide) zf_X1_22 rfl rfl dX1_append_43 ?_
      exact zr_return hO hE dX1_append_46 (zpl_v (by first | ((simp only [cF_append, if_neg c4, if_pos c13]) <;> rfl) | contradiction))
set_option maxRecDepth 100000 in
set_option maxHeartbeats 4000000 in
theorem e_X2_begins {l : Launch} {G : zGm} {d n o : Nat} {ly : zLy} {τ : zTu} {σ M : zSg} {t k : Int32} (htr : l.stackTraces = false) (hM : zC ly o) (hd : 0 ≤ d)  : zEv l G d 0 0 (yX2_begins, cX2_begins, 3, some .boolean) [.ref (o + 1), .int t, .int k] (fun x => n ≤ x) ly τ (zwr σ o 95 M) (zPl n ly τ (zwr σ o 95 M) (some (.int (zb (cF_begins t k))))) := by
  refine zEv_of (ls := [some (.ref (o + 1)), some (.int t), some (.int k), none, none, none, none, none, none]) htr (by decide) (Nat.le_of_ble_eq_true rfl) rfl (fun X hO hE hN hRm hL hNm => ?_)
  have hO : zOk G X RX2 cX2_begins 3 := hO
  refine zr_iload_2 hO dX2_begins_0 ?_
  refine zr_if_le (tgt := 14) hO dX2_begins_1 (by decide) (fun c1 => ?_) (fun c1 => ?_)
  · refine zr_iconst (v := 0) hO dX2_begins_14 (by decide) ?_
    exact zr_zreturn hO hE (by decide) dX2_begins_15 (zpl_i (by first | ((simp only [cF_begins, if_neg c1]) <;> rfl) | contradiction) rfl)
  · refine zr_iload_1 hO dX2_begins_4 ?_
    refine zr_iload_2 hO dX2_begins_5 ?_
    refine zr_irem hO dX2_begins_6 (by first | assumption | exact (fun hz0 => absurd (show (0 : Int32) < 0 from hz0 ▸ c1) (by decide))) ?_
    refine zr_if_ne (tgt := 14) hO dX2_begins_7 (by decide) (fun c7 => ?_) (fun c7 => ?_)
    · refine zr_iconst (v := 0) hO dX2_begins_14 (by decide) ?_
      exact zr_zreturn hO hE (by decide) dX2_begins_15 (zpl_i (by first | ((simp only [cF_begins, if_pos c1, if_neg c7]) <;> rfl) | contradiction) rfl)
    · refine zr_iconst (v := 1) hO dX2_begins_10 (by decide) ?_
      refine zr_goto (tgt := 15) hO dX2_begins_11 (by decide) ?_
      exact zr_zreturn hO hE (by decide) dX2_begins_15 (zpl_i (by first | ((simp only [cF_begins, if_pos c1, if_pos c7]) <;> rfl) | contradiction) rfl)
set_option maxRecDepth 100000 in
set_option maxHeartbeats 4000000 in
theorem e_X2_endsTurn {l : Launch} {G : zGm} {d n o : Nat} {ly : zLy} {τ : zTu} {σ M : zSg} {l9 t : Int32} (htr : l.stackTraces = false) (hM : zC ly o) (hd : 0 ≤ d)  : zEv l G d 0 0 (yX2_endsTurn, cX2_endsTurn, 3, some .boolean) [.ref (o + 1), .int l9, .int t] (fun x => n ≤ x) ly τ (zwr σ o 95 M) (zPl n ly τ (zwr σ o 95 M) (some (.int (zb (cF_endsTurn M l9 t))))) := by
  refine zEv_of (ls := [some (.ref (o + 1)), some (.int l9), some (.int t), none, none, none, none, none, none]) htr (by decide) (Nat.le_of_ble_eq_true rfl) rfl (fun X hO hE hN hRm hL hNm => ?_)
  have hO : zOk G X RX2 cX2_endsTurn 3 := hO
  refine zr_aload_0 hO dX2_endsTurn_0 ?_
  refine zg_getfi (c := 2) hO (zC_1 hM) (by decide) (by decide) (by decide) zf_X2_15 rfl dX2_endsTurn_1 ?_
  by_cases c4_0 : M 1 1 = 0
  · refine zr_lookup (off := 28) (tgt := 32) hO dX2_endsTurn_4 (by decide) (by rw [c4_0]; rfl) (by decide) ?_
    refine zr_iload_2 hO dX2_endsTurn_32 ?_
    refine zr_aload_0 hO dX2_endsTurn_33 ?_
    refine zg_getfi (c := 2) hO (zC_1 hM) (by decide) (by decide) (by decide) zf_X2_18 rfl dX2_endsTurn_34 ?_
    refine zr_icmp_lt (tgt := 44) hO dX2_endsTurn_37 (by decide) (fun c37 => ?_) (fun c37 => ?_)
    · refine zr_iconst (v := 0) hO dX2_endsTurn_44 (by decide) ?_
      exact zr_zreturn hO hE (by decide) dX2_endsTurn_45 (zpl_i (by first | ((simp only [cF_endsTurn, if_pos c4_0, if_pos c37]) <;> rfl) | contradiction) rfl)
    · refine zr_iconst (v := 1) hO dX2_endsTurn_40 (by decide) ?_
      refine zr_goto (tgt := 45) hO dX2_endsTurn_41 (by decide) ?_
      exact zr_zreturn hO hE (by decide) dX2_endsTurn_45 (zpl_i (by first | ((simp only [cF_endsTurn, if_pos c4_0, if_neg c37]) <;> rfl) | contradiction) rfl)
  by_cases c4_1 : M 1 1 = 1
  · refine zr_lookup (off := 42) (tgt := 46) hO dX2_endsTurn_4 (by decide) (by rw [c4_1]; rfl) (by decide) ?_
    refine zr_iload_2 hO dX2_endsTurn_46 ?_
    refine zr_aload_0 hO dX2_endsTurn_47 ?_
    refine zg_getfi (c := 2) hO (zC_1 hM) (by decide) (by decide) (by decide) zf_X2_18 rfl dX2_endsTurn_48 ?_
    refine zr_iload_1 hO dX2_endsTurn_51 ?_
    refine zr_ishl hO dX2_endsTurn_52 ?_
    refine zr_icmp_lt (tgt := 60) hO dX2_endsTurn_53 (by decide) (fun c53 => ?_) (fun c53 => ?_)
    · refine zr_iconst (v := 0) hO dX2_endsTurn_60 (by decide) ?_
      exact zr_zreturn hO hE (by decide) dX2_endsTurn_61 (zpl_i (by first | ((simp only [cF_endsTurn, if_neg c4_0, if_pos c4_1, if_pos c53]) <;> rfl) | contradiction) rfl)
    · refine zr_iconst (v := 1) hO dX2_endsTurn_56 (by decide) ?_
      refine zr_goto (tgt := 61) hO dX2_endsTurn_57 (by decide) ?_
      exact zr_zreturn hO hE (by decide) dX2_endsTurn_61 (zpl_i (by first | ((simp only [cF_endsTurn, if_neg c4_0, if_pos c4_1, if_neg c53]) <;> rfl) | contradiction) rfl)
  refine zr_lookup (off := 58) (tgt := 62) hO dX2_endsTurn_4 (by decide) (zlk2 _ _ _ (lv_neT c4_0 (show (0 : Int32).toInt = 0 from rfl)) (lv_neT c4_1 (show (1 : Int32).toInt = 1 from rfl))) (by decide) ?_
  refine zr_iconst (v := 0) hO dX2_endsTurn_62 (by decide) ?_
  exact zr_zreturn hO hE (by decide) dX2_endsTurn_63 (zpl_i (by first | ((simp only [cF_endsTurn, if_neg c4_0, if_neg c4_1]) <;> rfl) | contradiction) rfl)
set_option maxRecDepth 100000 in
set_option maxHeartbeats 4000000 in
theorem e_X3_countRun {l : Launch} {G : zGm} {d n o : Nat} {ly : zLy} {τ : zTu} {σ M : zSg} {i : Nat} {t : Int32} (htr : l.stackTraces = false) (hM : zC ly o) (hd : 0 ≤ d) (hi : i < 16)  : zEv l G d 0 0 (yX3_countRun, cX3_countRun, 2, none) [.ref (o + (ztk i + 4)), .int t] (fun x => n ≤ x) ly τ (zwr σ o 95 M) (zPl n ly τ (zwr σ o 95 (cF_countRun M i t)) none) := by
  refine zEv_of (ls := [some (.ref (o + (ztk i + 4))), some (.int t), none, none, none, none, none, none, none]) htr (by decide) (Nat.le_of_ble_eq_true rfl) rfl (fun X hO hE hN hRm hL hNm => ?_)
  have hO : zOk G X RX3 cX3_countRun 2 := hO
  refine zr_aload_0 hO dX3_countRun_0 ?_
  refine zg_getfi (c := 3) hO (zC_y hM hi) (by have := hi; unfold ztk; omega) (by decide) (by decide) zf_X3_18 rfl dX3_countRun_1 ?_
  refine zr_if_ne (tgt := 12) hO dX3_countRun_4 (by decide) (fun c4 => ?_) (fun c4 => ?_)
  · refine zr_aload_0 hO dX3_countRun_12 ?_
    refine zr_dup hO dX3_countRun_13 rfl ?_
    refine zg_getfi (c := 3) hO (zC_y hM hi) (by have := hi; unfold ztk; omega) (by decide) (by decide) zf_X3_18 rfl dX3_countRun_14 ?_
    refine zr_iconst (v := 1) hO dX3_countRun_17 (by decide) ?_
    refine zr_iadd hO dX3_countRun_18 ?_
    refine zg_putfi (c := 3) hO (zC_y hM hi) (by have := hi; unfold ztk; omega) (by decide) (by decide) zf_X3_18 rfl rfl dX3_countRun_19 ?_
    exact zr_return hO hE dX3_countRun_22 (zpl_v (by first | ((simp only [cF_countRun, if_neg c4]) <;> rfl) | contradiction))
  · refine zr_aload_0 hO dX3_countRun_7 ?_
    refine zr_iload_1 hO dX3_countRun_8 ?_
    refine zg_putfi (c := 3) hO (zC_y hM hi) (by have := hi; unfold ztk; omega) (by decide) (by decide) zf_X3_9 rfl rfl dX3_countRun_9 ?_
    refine zr_aload_0 hO dX3_countRun_12 ?_
    refine zr_dup hO dX3_countRun_13 rfl ?_
    refine zg_getfi (c := 3) hO (zC_y hM hi) (by have := hi; unfold ztk; omega) (by decide) (by decide) zf_X3_18 rfl dX3_countRun_14 ?_
    refine zr_iconst (v := 1) hO dX3_countRun_17 (by decide) ?_
    refine zV_pc (pc' := 18) rfl ?_
    refine zr_iadd hO dX3_countRun_18 ?_
    refine zg_putfi (c := 3) hO (zC_y hM hi) (by have := hi; unfold ztk; omega) (by decide) (by decide) zf_X3_18 rfl rfl dX3_countRun_19 ?_
    exact zr_return hO hE dX3_countRun_22 (zpl_v (by first | ((simp only [cF_countRun, if_pos c4]) <;> rfl) | contradiction))
set_option maxRecDepth 100000 in
set_option maxHeartbeats 4000000 in
theorem e_X3_tell {l : Launch} {G : zGm} {d n o : Nat} {ly : zLy} {τ : zTu} {σ M : zSg} {i : Nat} {w : Int32} (htr : l.stackTraces = false) (hM : zC ly o) (hd : 0 ≤ d) (hi : i < 16)  : zEv l G d 0 0 (yX3_tell, cX3_tell, 2, some .int) [.ref (o + (ztk i + 4)), .int w] (fun x => n ≤ x) ly τ (zwr σ o 95 M) (zPl n ly τ (zwr σ o 95 M) (some (.int (cF_tell M i w)))) := by
  refine zEv_of (ls := [some (.ref (o + (ztk i + 4))), some (.int w), none, none, none, none, none, none, none]) htr (by decide) (Nat.le_of_ble_eq_true rfl) rfl (fun X hO hE hN hRm hL hNm => ?_)
  have hO : zOk G X RX3 cX3_tell 2 := hO
  refine zr_iload_1 hO dX3_tell_0 ?_
  by_cases c1_0 : w = 0
  · refine zr_tableIn (tgt := 32) hO dX3_tell_1 (by rw [c1_0]; decide) (by rw [c1_0]; decide) (by rw [c1_0]; rfl) (by decide) ?_
    refine zr_aload_0 hO dX3_tell_32 ?_
    refine zg_getfi (c := 3) hO (zC_y hM hi) (by have := hi; unfold ztk; omega) (by decide) (by decide) zf_X3_18 rfl dX3_tell_33 ?_
    exact zr_ireturn hO hE dX3_tell_36 (zpl_i (by first | ((simp only [cF_tell, if_pos c1_0, if_neg (show ¬ w = 1 by rw [c1_0]; decide), if_neg (show ¬ w = 2 by rw [c1_0]; decide), if_neg (show ¬ w = 3 by rw [c1_0]; decide)]) <;> rfl) | contradiction) rfl)
  by_cases c1_1 : w = 1
  · refine zr_tableIn (tgt := 37) hO dX3_tell_1 (by rw [c1_1]; decide) (by rw [c1_1]; decide) (by rw [c1_1]; rfl) (by decide) ?_
    refine zr_aload_0 hO dX3_tell_37 ?_
    refine zg_getfi (c := 3) hO (zC_y hM hi) (by have := hi; unfold ztk; omega) (by decide) (by decide) zf_X3_21 rfl dX3_tell_38 ?_
    exact zr_ireturn hO hE dX3_tell_41 (zpl_i (by first | ((simp only [cF_tell, if_neg c1_0, if_pos c1_1, if_neg (show ¬ w = 0 by rw [c1_1]; decide), if_neg (show ¬ w = 2 by rw [c1_1]; decide), if_neg (show ¬ w = 3 by rw [c1_1]; decide)]) <;> rfl) | contradiction) rfl)
  by_cases c1_2 : w = 2
  · refine zr_tableIn (tgt := 42) hO dX3_tell_1 (by rw [c1_2]; decide) (by rw [c1_2]; decide) (by rw [c1_2]; rfl) (by decide) ?_
    refine zr_aload_0 hO dX3_tell_42 ?_
    refine zg_getfi (c := 3) hO (zC_y hM hi) (by have := hi; unfold ztk; omega) (by decide) (by decide) zf_X3_24 rfl dX3_tell_43 ?_
    exact zr_ireturn hO hE dX3_tell_46 (zpl_i (by first | ((simp only [cF_tell, if_neg c1_0, if_neg c1_1, if_pos c1_2, if_neg (show ¬ w = 0 by rw [c1_2]; decide), if_neg (show ¬ w = 1 by rw [c1_2]; decide), if_neg (show ¬ w = 3 by rw [c1_2]; decide)]) <;> rfl) | contradiction) rfl)
  by_cases c1_3 : w = 3
  · refine zr_tableIn (tgt := 47) hO dX3_tell_1 (by rw [c1_3]; decide) (by rw [c1_3]; decide) (by rw [c1_3]; rfl) (by decide) ?_
    refine zr_aload_0 hO dX3_tell_47 ?_
    refine zg_getfi (c := 3) hO (zC_y hM hi) (by have := hi; unfold ztk; omega) (by decide) (by decide) zf_X3_9 rfl dX3_tell_48 ?_
    exact zr_ireturn hO hE dX3_tell_51 (zpl_i (by first | ((simp only [cF_tell, if_neg c1_0, if_neg c1_1, if_neg c1_2, if_pos c1_3, if_neg (show ¬ w = 0 by rw [c1_3]; decide), if_neg (show ¬ w = 1 by rw [c1_3]; decide), if_neg (show ¬ w = 2 by rw [c1_3]; decide)]) <;> rfl) | contradiction) rfl)
  refine zr_tableOut (tgt := 52) hO dX3_tell_1 (by have h0 := lv_neT c1_0 (show (0 : Int32).toInt = 0 from rfl); have h1 := lv_neT c1_1 (show (1 : Int32).toInt = 1 from rfl); have h2 := lv_neT c1_2 (show (2 : Int32).toInt = 2 from rfl); have h3 := lv_neT c1_3 (show (3 : Int32).toInt = 3 from rfl); omega) (by decide) ?_
  refine zr_aload_0 hO dX3_tell_52 ?_
  refine zg_getfi (c := 3) hO (zC_y hM hi) (by have := hi; unfold ztk; omega) (by decide) (by decide) zf_X3_15 rfl dX3_tell_53 ?_
  exact zr_ireturn hO hE dX3_tell_56 (zpl_i (by first | ((simp only [cF_tell, if_neg c1_0, if_neg c1_1, if_neg c1_2, if_neg c1_3]) <;> rfl) | contradiction) rfl)
set_option maxRecDepth 100000 in
set_option maxHeartbeats 4000000 in
theorem e_X4_key {l : Launch} {G : zGm} {d n o : Nat} {ly : zLy} {τ : zTu} {σ M : zSg} {i : Nat} {w : Int32} (htr : l.stackTraces = false) (hM : zC ly o) (hd : 0 ≤ d) (hi : i < 16)  : zEv l G d 0 0 (yX4_key, cX4_key, 2, some .int) [.ref (o + ztk i), .int w] (fun x => n ≤ x) ly τ (zwr σ o 95 M) (zPl n ly τ (zwr σ o 95 M) (some (.int (cF_key M i w)))) := by
  refine zEv_of (ls := [some (.ref (o + ztk i)), some (.int w), none, none, none, none, none, none, none]) htr (by decide) (Nat.le_of_ble_eq_true rfl) rfl (fun X hO hE hN hRm hL hNm => ?_)
  have hO : zOk G X RX4 cX4_key 2 := hO
  refine zr_iload_1 hO dX4_key_0 ?_
  by_cases c1_0 : w = 0
  · refine zr_lookup (off := 27) (tgt := 28) hO dX4_key_1 (by decide) (by rw [c1_0]; rfl) (by decide) ?_
    refine zr_aload_0 hO dX4_key_28 ?_
    refine zg_getfi (c := 4) hO (zC_t hM hi) (by have := hi; unfold ztk; omega) (by decide) (by decide) zf_X4_45 rfl dX4_key_29 ?_
    exact zr_ireturn hO hE dX4_key_32 (zpl_i (by first | ((simp only [cF_key, if_pos c1_0]) <;> rfl) | contradiction) rfl)
  by_cases c1_1 : w = 1
  · refine zr_lookup (off := 32) (tgt := 33) hO dX4_key_1 (by decide) (by rw [c1_1]; rfl) (by decide) ?_
    refine zr_aload_0 hO dX4_key_33 ?_
    refine zg_getfi (c := 4) hO (zC_t hM hi) (by have := hi; unfold ztk; omega) (by decide) (by decide) zf_X4_60 rfl dX4_key_34 ?_
    exact zr_ireturn hO hE dX4_key_37 (zpl_i (by first | ((simp only [cF_key, if_neg c1_0, if_pos c1_1]) <;> rfl) | contradiction) rfl)
  refine zr_lookup (off := 37) (tgt := 38) hO dX4_key_1 (by decide) (zlk2 _ _ _ (lv_neT c1_0 (show (0 : Int32).toInt = 0 from rfl)) (lv_neT c1_1 (show (1 : Int32).toInt = 1 from rfl))) (by decide) ?_
  refine zr_aload_0 hO dX4_key_38 ?_
  refine zg_getfi (c := 4) hO (zC_t hM hi) (by have := hi; unfold ztk; omega) (by decide) (by decide) zf_X4_63 rfl dX4_key_39 ?_
  exact zr_ireturn hO hE dX4_key_42 (zpl_i (by first | ((simp only [cF_key, if_neg c1_0, if_neg c1_1]) <;> rfl) | contradiction) rfl)
set_option maxRecDepth 100000 in
set_option maxHeartbeats 4000000 in
theorem e_X4_waitsAt {l : Launch} {G : zGm} {d n o : Nat} {ly : zLy} {τ : zTu} {σ M : zSg} {i : Nat} {a b : Int32} (htr : l.stackTraces = false) (hM : zC ly o) (hd : 0 ≤ d) (hi : i < 16)  : zEv l G d 0 0 (yX4_waitsAt, cX4_waitsAt, 3, some .boolean) [.ref (o + ztk i), .int a, .int b] (fun x => n ≤ x) ly τ (zwr σ o 95 M) (zPl n ly τ (zwr σ o 95 M) (some (.int (zb (cF_waitsAt M i a b))))) := by
  refine zEv_of (ls := [some (.ref (o + ztk i)), some (.int a), some (.int b), none, none, none, none, none, none]) htr (by decide) (Nat.le_of_ble_eq_true rfl) rfl (fun X hO hE hN hRm hL hNm => ?_)
  have hO : zOk G X RX4 cX4_waitsAt 3 := hO
  refine zr_aload_0 hO dX4_waitsAt_0 ?_
  refine zg_getfi (c := 4) hO (zC_t hM hi) (by have := hi; unfold ztk; omega) (by decide) (by decide) zf_X4_25 rfl dX4_waitsAt_1 ?_
  refine zr_iload_1 hO dX4_waitsAt_4 ?_
  refine zr_icmp_ne (tgt := 20) hO dX4_waitsAt_5 (by decide) (fun c5 => ?_) (fun c5 => ?_)
  · refine zr_iconst (v := 0) hO dX4_waitsAt_20 (by decide) ?_
    exact zr_zreturn hO hE (by decide) dX4_waitsAt_21 (zpl_i (by first | ((simp only [cF_waitsAt, if_neg c5]) <;> rfl) | contradiction) rfl)
  · refine zr_aload_0 hO dX4_waitsAt_8 ?_
    refine zg_getfi (c := 4) hO (zC_t hM hi) (by have := hi; unfold ztk; omega) (by decide) (by decide) zf_X4_32 rfl dX4_waitsAt_9 ?_
    refine zr_iload_2 hO dX4_waitsAt_12 ?_
    refine zr_icmp_ne (tgt := 20) hO dX4_waitsAt_13 (by decide) (fun c13 => ?_) (fun c13 => ?_)
    · refine zr_iconst (v := 0) hO dX4_waitsAt_20 (by decide) ?_
      exact zr_zreturn hO hE (by decide) dX4_waitsAt_21 (zpl_i (by first | ((simp only [cF_waitsAt, if_pos c5, if_neg c13]) <;> rfl) | contradiction) rfl)
    · refine zr_iconst (v := 1) hO dX4_waitsAt_16 (by decide) ?_
      refine zr_goto (tgt := 21) hO dX4_waitsAt_17 (by decide) ?_
      exact zr_zreturn hO hE (by decide) dX4_waitsAt_21 (zpl_i (by first | ((simp only [cF_waitsAt, if_pos c5, if_pos c13]) <;> rfl) | contradiction) rfl)
set_option maxRecDepth 100000 in
set_option maxHeartbeats 4000000 in
theorem e_X4_isThrough {l : Launch} {G : zGm} {d n o : Nat} {ly : zLy} {τ : zTu} {σ M : zSg} {i : Nat}  (htr : l.stackTraces = false) (hM : zC ly o) (hd : 0 ≤ d) (hi : i < 16)  : zEv l G d 0 0 (yX4_isThrough, cX4_isThrough, 1, some .boolean) [.ref (o + ztk i)] (fun x => n ≤ x) ly τ (zwr σ o 95 M) (zPl n ly τ (zwr σ o 95 M) (some (.int (zb (cF_isThrough M i))))) := by
  refine zEv_of (ls := [some (.ref (o + ztk i)), none, none, none, none, none, none, none, none]) htr (by decide) (Nat.le_of_ble_eq_true rfl) rfl (fun X hO hE hN hRm hL hNm => ?_)
  have hO : zOk G X RX4 cX4_isThrough 1 := hO
  refine zr_aload_0 hO dX4_isThrough_0 ?_
  refine zg_getfi (c := 4) hO (zC_t hM hi) (by have := hi; unfold ztk; omega) (by decide) (by decide) zf_X4_57 rfl dX4_isThrough_1 ?_
  refine zr_aload_0 hO dX4_isThrough_4 ?_
  refine zr_getfr (c := 4) hO (by decide) (by decide) zf_X4_12 (zC_t hM hi) rfl rfl dX4_isThrough_5 ?_
  refine zg_getfi (c := 1) hO (zC_p hM hi) (by have := hi; unfold ztk; omega) (by decide) (by decide) zf_X4_75 rfl dX4_isThrough_8 ?_
  refine zr_icmp_lt (tgt := 18) hO dX4_isThrough_11 (by decide) (fun c11 => ?_) (fun c11 => ?_)
  · refine zr_iconst (v := 0) hO dX4_isThrough_18 (by decide) ?_
    exact zr_zreturn hO hE (by decide) dX4_isThrough_19 (zpl_i (by first | ((simp only [cF_isThrough, if_pos c11]) <;> rfl) | contradiction) rfl)
  · refine zr_iconst (v := 1) hO dX4_isThrough_14 (by decide) ?_
    refine zr_goto (tgt := 19) hO dX4_isThrough_15 (by decide) ?_
    exact zr_zreturn hO hE (by decide) dX4_isThrough_19 (zpl_i (by first | ((simp only [cF_isThrough, if_neg c11]) <;> rfl) | contradiction) rfl)
set_option maxRecDepth 100000 in
set_option maxHeartbeats 4000000 in
theorem e_X4_comesAhead {l : Launch} {G : zGm} {d n o : Nat} {ly : zLy} {τ : zTu} {σ M : zSg} {i : Nat} {j : Nat} (htr : l.stackTraces = false) (hM : zC ly o) (hd : 0 ≤ d) (hi : i < 16) (hj : j < 16) : zEv l G d 0 0 (yX4_comesAhead, cX4_comesAhead, 2, some .boolean) [.ref (o + ztk i), .ref (o + ztk j)] (fun x => n ≤ x) ly τ (zwr σ o 95 M) (zPl n ly τ (zwr σ o 95 M) (some (.int (zb (cF_comesAhead M i j))))) := by
  refine zEv_of (ls := [some (.ref (o + ztk i)), some (.ref (o + ztk j)), none, none, none, none, none, none, none]) htr (by decide) (Nat.le_of_ble_eq_true rfl) rfl (fun X hO hE hN hRm hL hNm => ?_)
  have hO : zOk G X RX4 cX4_comesAhead 2 := hO
  refine zr_aload_0 hO dX4_comesAhead_0 ?_
  refine zg_getfi (c := 4) hO (zC_t hM hi) (by have := hi; unfold ztk; omega) (by decide) (by decide) zf_X4_72 rfl dX4_comesAhead_1 ?_
  refine zr_aload_1 hO dX4_comesAhead_4 ?_
  refine zg_getfi (c := 4) hO (zC_t hM hj) (by have := hj; unfold ztk; omega) (by decide) (by decide) zf_X4_72 rfl dX4_comesAhead_5 ?_
  refine zr_icmp_eq (tgt := 28) hO dX4_comesAhead_8 (by decide) (fun c8 => ?_) (fun c8 => ?_)
  · refine zr_aload_0 hO dX4_comesAhead_28 ?_
    refine zg_getfi (c := 4) hO (zC_t hM hi) (by have := hi; unfold ztk; omega) (by decide) (by decide) zf_X4_25 rfl dX4_comesAhead_29 ?_
    refine zr_aload_1 hO dX4_comesAhead_32 ?_
    refine zg_getfi (c := 4) hO (zC_t hM hj) (by have := hj; unfold ztk; omega) (by decide) (by decide) zf_X4_25 rfl dX4_comesAhead_33 ?_
    refine zr_icmp_eq (tgt := 53) hO dX4_comesAhead_36 (by decide) (fun c36 => ?_) (fun c36 => ?_)
    · refine zr_aload_0 hO dX4_comesAhead_53 ?_
      refine zg_getfi (c := 4) hO (zC_t hM hi) (by have := hi; unfold ztk; omega) (by decide) (by decide) zf_X4_29 rfl dX4_comesAhead_54 ?_
      refine zr_aload_1 hO dX4_comesAhead_57 ?_
      refine zg_getfi (c := 4) hO (zC_t hM hj) (by have := hj; unfold ztk; omega) (by decide) (by decide) zf_X4_29 rfl dX4_comesAhead_58 ?_
      refine zr_icmp_ge (tgt := 68) hO dX4_comesAhead_61 (by decide) (fun c61 => ?_) (fun c61 => ?_)
      · refine zr_iconst (v := 0) hO dX4_comesAhead_68 (by decide) ?_
        exact zr_zreturn hO hE (by decide) dX4_comesAhead_69 (zpl_i (by first | ((simp only [cF_comesAhead, if_pos c8, if_pos c36, if_neg c61]) <;> rfl) | contradiction) rfl)
      · refine zr_iconst (v := 1) hO dX4_comesAhead_64 (by decide) ?_
        refine zr_goto (tgt := 69) hO dX4_comesAhead_65 (by decide) ?_
        exact zr_zreturn hO hE (by decide) dX4_comesAhead_69 (zpl_i (by first | ((simp only [cF_comesAhead, if_pos c8, if_pos c36, if_pos c61]) <;> rfl) | contradiction) rfl)
    · refine zr_aload_0 hO dX4_comesAhead_39 ?_
      refine zg_getfi (c := 4) hO (zC_t hM hi) (by have := hi; unfold ztk; omega) (by decide) (by decide) zf_X4_25 rfl dX4_comesAhead_40 ?_
      refine zr_iconst (v := 2) hO dX4_comesAhead_43 (by decide) ?_
      refine zr_icmp_ne (tgt := 51) hO dX4_comesAhead_44 (by decide) (fun c44 => ?_) (fun c44 => ?_)
      · refine zr_iconst (v := 0) hO dX4_comesAhead_51 (by decide) ?_
        exact zr_zreturn hO hE (by decide) dX4_comesAhead_52 (zpl_i (by first | ((simp only [cF_comesAhead, if_pos c8, if_neg c36, if_neg c44]) <;> rfl) | contradiction) rfl)
      · refine zr_iconst (v := 1) hO dX4_comesAhead_47 (by decide) ?_
        refine zr_goto (tgt := 52) hO dX4_comesAhead_48 (by decide) ?_
        exact zr_zreturn hO hE (by decide) dX4_comesAhead_52 (zpl_i (by first | ((simp only [cF_comesAhead, if_pos c8, if_neg c36, if_pos c44]) <;> rfl) | contradiction) rfl)
  · refine zr_aload_0 hO dX4_comesAhead_11 ?_
    refine zg_getfi (c := 4) hO (zC_t hM hi) (by have := hi; unfold ztk; omega) (by decide) (by decide) zf_X4_72 rfl dX4_comesAhead_12 ?_
    refine zr_aload_1 hO dX4_comesAhead_15 ?_
    refine zg_getfi (c := 4) hO (zC_t hM hj) (by have := hj; unfold ztk; omega) (by decide) (by decide) zf_X4_72 rfl dX4_comesAhead_16 ?_
    refine zr_icmp_ge (tgt := 26) hO dX4_comesAhead_19 (by decide) (fun c19 => ?_) (fun c19 => ?_)
    · refine zr_iconst (v := 0) hO dX4_comesAhead_26 (by decide) ?_
      exact zr_zreturn hO hE (by decide) dX4_comesAhead_27 (zpl_i (by first | ((simp only [cF_comesAhead, if_neg c8, if_neg c19]) <;> rfl) | contradiction) rfl)
    · refine zr_iconst (v := 1) hO dX4_comesAhead_22 (by decide) ?_
      refine zr_goto (tgt := 27) hO dX4_comesAhead_23 (by decide) ?_
      exact zr_zreturn hO hE (by decide) dX4_comesAhead_27 (zpl_i (by first | ((simp only [cF_comesAhead, if_neg c8, if_pos c19]) <;> rfl) | contradiction) rfl)
set_option maxRecDepth 100000 in
set_option maxHeartbeats 4000000 in
theorem e_X4_inheritsAhead {l : Launch} {G : zGm} {d n o : Nat} {ly : zLy} {τ : zTu} {σ M : zSg} {i : Nat} {j : Nat} (htr : l.stackTraces = false) (hM : zC ly o) (hd : 0 ≤ d) (hi : i < 16) (hj : j < 16) : zEv l G d 0 0 (yX4_inheritsAhead, cX4_inheritsAhead, 2, some .boolean) [.ref (o + ztk i), .ref (o + ztk j)] (fun x => n ≤ x) ly τ (zwr σ o 95 M) (zPl n ly τ (zwr σ o 95 M) (some (.int (zb (cF_inheritsAhead M i j))))) := by
  refine zEv_of (ls := [some (.ref (o + ztk i)), some (.ref (o + ztk j)), none, none, none, none, none, none, none]) htr (by decide) (Nat.le_of_ble_eq_true rfl) rfl (fun X hO hE hN hRm hL hNm => ?_)
  have hO : zOk G X RX4 cX4_inheritsAhead 2 := hO
  refine zr_aload_0 hO dX4_inheritsAhead_0 ?_
  refine zg_getfi (c := 4) hO (zC_t hM hi) (by have := hi; unfold ztk; omega) (by decide) (by decide) zf_X4_72 rfl dX4_inheritsAhead_1 ?_
  refine zr_aload_1 hO dX4_inheritsAhead_4 ?_
  refine zg_getfi (c := 4) hO (zC_t hM hj) (by have := hj; unfold ztk; omega) (by decide) (by decide) zf_X4_72 rfl dX4_inheritsAhead_5 ?_
  refine zr_icmp_eq (tgt := 30) hO dX4_inheritsAhead_8 (by decide) (fun c8 => ?_) (fun c8 => ?_)
  · refine zr_aload_0 hO dX4_inheritsAhead_30 ?_
    refine zg_getfi (c := 4) hO (zC_t hM hi) (by have := hi; unfold ztk; omega) (by decide) (by decide) zf_X4_69 rfl dX4_inheritsAhead_31 ?_
    refine zr_aload_1 hO dX4_inheritsAhead_34 ?_
    refine zg_getfi (c := 4) hO (zC_t hM hj) (by have := hj; unfold ztk; omega) (by decide) (by decide) zf_X4_69 rfl dX4_inheritsAhead_35 ?_
    refine zr_icmp_ge (tgt := 45) hO dX4_inheritsAhead_38 (by decide) (fun c38 => ?_) (fun c38 => ?_)
    · refine zr_iconst (v := 0) hO dX4_inheritsAhead_45 (by decide) ?_
      exact zr_zreturn hO hE (by decide) dX4_inheritsAhead_46 (zpl_i (by first | ((simp only [cF_inheritsAhead, if_pos c8, if_neg c38]) <;> rfl) | contradiction) rfl)
    · refine zr_iconst (v := 1) hO dX4_inheritsAhead_41 (by decide) ?_
      refine zr_goto (tgt := 46) hO dX4_inheritsAhead_42 (by decide) ?_
      exact zr_zreturn hO hE (by decide) dX4_inheritsAhead_46 (zpl_i (by first | ((simp only [cF_inheritsAhead, if_pos c8, if_pos c38]) <;> rfl) | contradiction) rfl)
  · refine zr_aload_0 hO dX4_inheritsAhead_11 ?_
    refine zg_getfi (c := 4) hO (zC_t hM hi) (by have := hi; unfold ztk; omega) (by decide) (by decide) zf_X4_72 rfl dX4_inheritsAhead_12 ?_
    refine zr_aload_1 hO dX4_inheritsAhead_15 ?_
    refine zg_getfi (c := 4) hO (zC_t hM hj) (by have := hj; unfold ztk; omega) (by decide) (by decide) zf_X4_72 rfl dX4_inheritsAhead_16 ?_
    refine zr_icmp_ge (tgt := 26) hO dX4_inheritsAhead_19 (by decide) (fun c19 => ?_) (fun c19 => ?_)
    · refine zr_iconst (v := 0) hO dX4_inheritsAhead_26 (by decide) ?_
      refine zr_goto (tgt := 46) hO dX4_inheritsAhead_27 (by decide) ?_
      exact zr_zreturn hO hE (by decide) dX4_inheritsAhead_46 (zpl_i (by first | ((simp only [cF_inheritsAhead, if_neg c8, if_neg c19]) <;> rfl) | contradiction) rfl)
    · refine zr_iconst (v := 1) hO dX4_inheritsAhead_22 (by decide) ?_
      refine zr_goto (tgt := 46) hO dX4_inheritsAhead_23 (by decide) ?_
      exact zr_zreturn hO hE (by decide) dX4_inheritsAhead_46 (zpl_i (by first | ((simp only [cF_inheritsAhead, if_neg c8, if_pos c19]) <;> rfl) | contradiction) rfl)
set_option maxRecDepth 100000 in
set_option maxHeartbeats 4000000 in
theorem e_X4_addTime {l : Launch} {G : zGm} {d n o : Nat} {ly : zLy} {τ : zTu} {σ M : zSg} {i : Nat}  (htr : l.stackTraces = false) (hM : zC ly o) (hd : 0 ≤ d) (hi : i < 16)  : zEv l G d 0 0 (yX4_addTime, cX4_addTime, 2, none) [.ref (o + ztk i)] (fun x => n ≤ x) ly τ (zwr σ o 95 M) (zPl n ly τ (zwr σ o 95 (cF_addTime M i)) none) := by
  refine zEv_of (ls := [some (.ref (o + ztk i)), none, none, none, none, none, none, none, none]) htr (by decide) (Nat.le_of_ble_eq_true rfl) rfl (fun X hO hE hN hRm hL hNm => ?_)
  have hO : zOk G X RX4 cX4_addTime 2 := hO
  refine zr_bipush (v := 8) hO dX4_addTime_0 (by decide) ?_
  refine zr_aload_0 hO dX4_addTime_2 ?_
  refine zg_getfi (c := 4) hO (zC_t hM hi) (by have := hi; unfold ztk; omega) (by decide) (by decide) zf_X4_45 rfl dX4_addTime_3 ?_
  refine zr_isub hO dX4_addTime_6 ?_
  refine zr_istore_1 hO dX4_addTime_7 (by decide) rfl ?_
  refine zr_iload_1 hO dX4_addTime_8 ?_
  refine zr_if_le (tgt := 26) hO dX4_addTime_9 (by decide) (fun c9 => ?_) (fun c9 => ?_)
  · exact zr_return hO hE dX4_addTime_26 (zpl_v (by first | ((simp only [cF_addTime, if_neg c9]) <;> rfl) | contradiction))
  · refine zr_aload_0 hO dX4_addTime_12 ?_
    refine zr_dup hO dX4_addTime_13 rfl ?_
    refine zg_getfi (c := 4) hO (zC_t hM hi) (by have := hi; unfold ztk; omega) (by decide) (by decide) zf_X4_63 rfl dX4_addTime_14 ?_
    refine zr_sipush (v := 840) hO dX4_addTime_17 (by decide) ?_
    refine zr_iload_1 hO dX4_addTime_20 ?_
    refine zr_idiv hO dX4_addTime_21 (by first | assumption | exact (fun hz0 => absurd (show (0 : Int32) < 0 from hz0 ▸ c9) (by decide))) ?_
    refine zr_iadd hO dX4_addTime_22 ?_
    refine zV_pc (pc' := 23) rfl ?_
    refine zg_putfi (c := 4) hO (zC_t hM hi) (by have := hi; unfold ztk; omega) (by decide) (by decide) zf_X4_63 rfl rfl dX4_addTime_23 ?_
    exact zr_return hO hE dX4_addTime_26 (zpl_v (by first | ((simp only [cF_addTime, if_pos c9]) <;> rfl) | contradiction))
set_option maxRecDepth 100000 in
set_option maxHeartbeats 4000000 in
theorem e_X4_countTickOfStep {l : Launch} {G : zGm} {d n o : Nat} {ly : zLy} {τ : zTu} {σ M : zSg} {i : Nat}  (htr : l.stackTraces = false) (hM : zC ly o) (hd : 1 ≤ d) (hi : i < 16)  : zEv l G d 0 0 (yX4_countTickOfStep, cX4_countTickOfStep, 1, none) [.ref (o + ztk i)] (fun x => n ≤ x) ly τ (zwr σ o 95 M) (zPl n ly τ (zwr σ o 95 (cF_countStep M i)) none) := by
  refine zEv_of (ls := [some (.ref (o + ztk i)), none, none, none, none, none, none, none, none]) htr (by decide) (Nat.le_of_ble_eq_true rfl) rfl (fun X hO hE hN hRm hL hNm => ?_)
  have hO : zOk G X RX4 cX4_countTickOfStep 1 := hO
  refine zr_aload_0 hO dX4_countTickOfStep_0 ?_
  refine zr_dup hO dX4_countTickOfStep_1 rfl ?_
  refine zg_getfi (c := 4) hO (zC_t hM hi) (by have := hi; unfold ztk; omega) (by decide) (by decide) zf_X4_54 rfl dX4_countTickOfStep_2 ?_
  refine zr_iconst (v := 1) hO dX4_countTickOfStep_5 (by decide) ?_
  refine zr_iadd hO dX4_countTickOfStep_6 ?_
  refine zg_putfi (c := 4) hO (zC_t hM hi) (by have := hi; unfold ztk; omega) (by decide) (by decide) zf_X4_54 rfl rfl dX4_countTickOfStep_7 ?_
  refine zr_aload_0 hO dX4_countTickOfStep_10 ?_
  refine zV_pc (pc' := 11) rfl ?_
  refine zg_getfi (c := 4) hO (zC_t hM hi) (by have := hi; unfold ztk; omega) (by decide) (by decide) zf_X4_54 rfl dX4_countTickOfStep_11 ?_
  refine zr_aload_0 hO dX4_countTickOfStep_14 ?_
  refine zr_getfr (c := 4) hO (by decide) (by decide) zf_X4_12 (zC_t hM hi) rfl rfl dX4_countTickOfStep_15 ?_
  refine zr_aload_0 hO dX4_countTickOfStep_18 ?_
  refine zg_getfi (c := 4) hO (zC_t hM hi) (by have := hi; unfold ztk; omega) (by decide) (by decide) zf_X4_51 rfl dX4_countTickOfStep_19 ?_
  refine zr_V1 (D := d) hO hRm hL (by omega) (by decide) (c := 1) (by decide) (zC_p hM hi) rfl rfl (e_X1_numberAt (d := d - 1) htr hM (by omega) hi) zl_X4_78 zi_X1_numberAt zs_X1_numberAt zc_X1_numberAt zn_X1 zd_X1_numberAt (Nat.le_of_ble_eq_true rfl) dX4_countTickOfStep_22 (by omega) (by omega) ?_
  refine zr_icmp_ge (tgt := 29) hO dX4_countTickOfStep_25 (by decide) (fun c25 => ?_) (fun c25 => ?_)
  · refine zr_aload_0 hO dX4_countTickOfStep_29 ?_
    refine zr_iconst (v := 0) hO dX4_countTickOfStep_30 (by decide) ?_
    refine zg_putfi (c := 4) hO (zC_t hM hi) (by have := hi; unfold ztk; omega) (by decide) (by decide) zf_X4_54 rfl rfl dX4_countTickOfStep_31 ?_
    refine zr_aload_0 hO dX4_countTickOfStep_34 ?_
    refine zr_dup hO dX4_countTickOfStep_35 rfl ?_
    refine zg_getfi (c := 4) hO (zC_t hM hi) (by have := hi; unfold ztk; omega) (by decide) (by decide) zf_X4_51 rfl dX4_countTickOfStep_36 ?_
    refine zr_iconst (v := 1) hO dX4_countTickOfStep_39 (by decide) ?_
    refine zV_pc (pc' := 40) rfl ?_
    refine zr_iadd hO dX4_countTickOfStep_40 ?_
    refine zg_putfi (c := 4) hO (zC_t hM hi) (by have := hi; unfold ztk; omega) (by decide) (by decide) zf_X4_51 rfl rfl dX4_countTickOfStep_41 ?_
    refine zr_aload_0 hO dX4_countTickOfStep_44 ?_
    refine zg_getfi (c := 4) hO (zC_t hM hi) (by have := hi; unfold ztk; omega) (by decide) (by decide) zf_X4_51 rfl dX4_countTickOfStep_45 ?_
    refine zr_aload_0 hO dX4_countTickOfStep_48 ?_
    refine zr_getfr (c := 4) hO (by decide) (by decide) zf_X4_12 (zC_t hM hi) rfl rfl dX4_countTickOfStep_49 ?_
    refine zg_getfi (c := 1) hO (zC_p hM hi) (by have := hi; unfold ztk; omega) (by decide) (by decide) zf_X4_82 rfl dX4_countTickOfStep_52 ?_
    refine zV_pc (pc' := 55) rfl ?_
    refine zr_icmp_lt (tgt := 73) hO dX4_countTickOfStep_55 (by decide) (fun c55 => ?_) (fun c55 => ?_)
    · exact zr_return hO hE dX4_countTickOfStep_73 (zpl_v (by first | ((simp only [cF_countStep, if_neg c25, if_pos c55]) <;> rfl) | contradiction))
    · refine zr_aload_0 hO dX4_countTickOfStep_58 ?_
      refine zr_iconst (v := 0) hO dX4_countTickOfStep_59 (by decide) ?_
      refine zg_putfi (c := 4) hO (zC_t hM hi) (by have := hi; unfold ztk; omega) (by decide) (by decide) zf_X4_51 rfl rfl dX4_countTickOfStep_60 ?_
      refine zr_aload_0 hO dX4_countTickOfStep_63 ?_
      refine zr_dup hO dX4_countTickOfStep_64 rfl ?_
      refine zg_getfi (c := 4) hO (zC_t hM hi) (by have := hi; unfold ztk; omega) (by decide) (by decide) zf_X4_57 rfl dX4_countTickOfStep_65 ?_
      refine zr_iconst (v := 1) hO dX4_countTickOfStep_68 (by decide) ?_
      refine zV_pc (pc' := 69) rfl ?_
      refine zr_iadd hO dX4_countTickOfStep_69 ?_
      refine zg_putfi (c := 4) hO (zC_t hM hi) (by have := hi; unfold ztk; omega) (by decide) (by decide) zf_X4_57 rfl rfl dX4_countTickOfStep_70 ?_
      exact zr_return hO hE dX4_countTickOfStep_73 (zpl_v (by first | ((simp only [cF_countStep, if_neg c25, if_neg c55]) <;> rfl) | contradiction))
  · exact zr_return hO hE dX4_countTickOfStep_28 (zpl_v (by first | ((simp only [cF_countStep, if_pos c25]) <;> rfl) | contradiction))
set_option maxRecDepth 100000 in
set_option maxHeartbeats 4000000 in
theorem e_X5_note {l : Launch} {G : zGm} {d n o : Nat} {ly : zLy} {τ : zTu} {σ M : zSg} {p t v : Int32} (htr : l.stackTraces = false) (hM : zC ly o) (hd : 0 ≤ d)  : zEv l G d 0 0 (yX5_note, cX5_note, 4, none) [.ref (o + 3), .int p, .int t, .int v] (fun x => n ≤ x) ly τ (zwr σ o 95 M) (zPl n ly τ (zwr σ o 95 (cF_note M p t v)) none) := by
  refine zEv_of (ls := [some (.ref (o + 3)), some (.int p), some (.int t), some (.int v), none, none, none, none, none]) htr (by decide) (Nat.le_of_ble_eq_true rfl) rfl (fun X hO hE hN hRm hL hNm => ?_)
  have hO : zOk G X RX5 cX5_note 4 := hO
  refine zr_iload_1 hO dX5_note_0 ?_
  refine zr_if_lt (tgt := 25) hO dX5_note_1 (by decide) (fun c1 => ?_) (fun c1 => ?_)
  · exact zr_return hO hE dX5_note_25 (zpl_v (by first | ((simp only [cF_note, if_pos c1]) <;> rfl) | contradiction))
  · refine zr_iload_1 hO dX5_note_4 ?_
    refine zr_iconst (v := 3) hO dX5_note_5 (by decide) ?_
    refine zr_icmp_ge (tgt := 25) hO dX5_note_6 (by decide) (fun c6 => ?_) (fun c6 => ?_)
    · exact zr_return hO hE dX5_note_25 (zpl_v (by first | ((simp only [cF_note, if_neg c1, if_neg c6]) <;> rfl) | contradiction))
    · refine zr_iload_2 hO dX5_note_9 ?_
      refine zr_if_lt (tgt := 25) hO dX5_note_10 (by decide) (fun c10 => ?_) (fun c10 => ?_)
      · exact zr_return hO hE dX5_note_25 (zpl_v (by first | ((simp only [cF_note, if_neg c1, if_pos c6, if_pos c10]) <;> rfl) | contradiction))
      · refine zr_aload_0 hO dX5_note_13 ?_
        refine zr_getfr (c := 5) hO (by decide) (by decide) zf_X5_11 (zC_3 hM) rfl rfl dX5_note_14 ?_
        refine zr_iload_1 hO dX5_note_17 ?_
        refine zr_aaldIx hO (zC_4 hM) (by first | assumption | exact zin_c c1 c6 rfl) dX5_note_18 (fun hx18_0 => ?_)
        refine zr_iload_2 hO dX5_note_19 ?_
        refine zr_bipush (v := 30) hO dX5_note_20 (by decide) ?_
        refine zr_irem hO dX5_note_22 (by first | assumption | decide) ?_
        refine zV_pc (pc' := 23) rfl ?_
        refine zr_iload_3 hO dX5_note_23 ?_
        refine zg_iast hO (zC_ran hM hx18_0) (by have := hx18_0; omega) (by first | assumption | exact zin_mod c10) dX5_note_24 ?_
        exact zr_return hO hE dX5_note_25 (zpl_v (by first | ((simp only [cF_note, if_neg c1, if_pos c6, if_neg c10]) <;> rfl) | contradiction))
set_option maxRecDepth 100000 in
set_option maxHeartbeats 4000000 in
theorem e_X5_countOffer {l : Launch} {G : zGm} {d n o : Nat} {ly : zLy} {τ : zTu} {σ M : zSg} {b : Bool} (htr : l.stackTraces = false) (hM : zC ly o) (hd : 0 ≤ d)  : zEv l G d 0 0 (yX5_countOffer, cX5_countOffer, 2, none) [.ref (o + 3), .int (zb b)] (fun x => n ≤ x) ly τ (zwr σ o 95 M) (zPl n ly τ (zwr σ o 95 (cF_offer M b)) none) := by
  refine zEv_of (ls := [some (.ref (o + 3)), some (.int (zb b)), none, none, none, none, none, none, none]) htr (by decide) (Nat.le_of_ble_eq_true rfl) rfl (fun X hO hE hN hRm hL hNm => ?_)
  have hO : zOk G X RX5 cX5_countOffer 2 := hO
  refine zr_aload_0 hO dX5_countOffer_0 ?_
  refine zr_dup hO dX5_countOffer_1 rfl ?_
  refine zg_getfi (c := 5) hO (zC_3 hM) (by decide) (by decide) (by decide) zf_X5_23 rfl dX5_countOffer_2 ?_
  refine zr_iconst (v := 1) hO dX5_countOffer_5 (by decide) ?_
  refine zr_iadd hO dX5_countOffer_6 ?_
  refine zg_putfi (c := 5) hO (zC_3 hM) (by decide) (by decide) (by decide) zf_X5_23 rfl rfl dX5_countOffer_7 ?_
  refine zr_iload_1 hO dX5_countOffer_10 ?_
  refine zV_pc (pc' := 11) rfl ?_
  refine zr_ifb_ne (tgt := 24) hO dX5_countOffer_11 (by decide) (fun c11 => ?_) (fun c11 => ?_)
  · exact zr_return hO hE dX5_countOffer_24 (zpl_v (by first | ((simp only [cF_offer, if_pos c11]) <;> rfl) | contradiction))
  · refine zr_aload_0 hO dX5_countOffer_14 ?_
    refine zr_dup hO dX5_countOffer_15 rfl ?_
    refine zg_getfi (c := 5) hO (zC_3 hM) (by decide) (by decide) (by decide) zf_X5_20 rfl dX5_countOffer_16 ?_
    refine zr_iconst (v := 1) hO dX5_countOffer_19 (by decide) ?_
    refine zr_iadd hO dX5_countOffer_20 ?_
    refine zg_putfi (c := 5) hO (zC_3 hM) (by decide) (by decide) (by decide) zf_X5_20 rfl rfl dX5_countOffer_21 ?_
    exact zr_return hO hE dX5_countOffer_24 (zpl_v (by first | ((simp only [cF_offer, if_neg (zif_f c11)]) <;> rfl) | contradiction))
set_option maxRecDepth 100000 in
set_option maxHeartbeats 4000000 in
theorem e_X5_ranIn {l : Launch} {G : zGm} {d n o : Nat} {ly : zLy} {τ : zTu} {σ M : zSg} {p t : Int32} (htr : l.stackTraces = false) (hM : zC ly o) (hd : 0 ≤ d)  : zEv l G d 0 0 (yX5_ranIn, cX5_ranIn, 3, some .int) [.ref (o + 3), .int p, .int t] (fun x => n ≤ x) ly τ (zwr σ o 95 M) (zPl n ly τ (zwr σ o 95 M) (some (.int (cF_ranIn M p t)))) := by
  refine zEv_of (ls := [some (.ref (o + 3)), some (.int p), some (.int t), none, none, none, none, none, none]) htr (by decide) (Nat.le_of_ble_eq_true rfl) rfl (fun X hO hE hN hRm hL hNm => ?_)
  have hO : zOk G X RX5 cX5_ranIn 3 := hO
  refine zr_iload_1 hO dX5_ranIn_0 ?_
  refine zr_if_lt (tgt := 13) hO dX5_ranIn_1 (by decide) (fun c1 => ?_) (fun c1 => ?_)
  · refine zr_bipush (v := (-2)) hO dX5_ranIn_13 (by decide) ?_
    exact zr_ireturn hO hE dX5_ranIn_15 (zpl_i (by first | ((simp only [cF_ranIn, if_pos c1]) <;> rfl) | contradiction) rfl)
  · refine zr_iload_1 hO dX5_ranIn_4 ?_
    refine zr_iconst (v := 3) hO dX5_ranIn_5 (by decide) ?_
    refine zr_icmp_ge (tgt := 13) hO dX5_ranIn_6 (by decide) (fun c6 => ?_) (fun c6 => ?_)
    · refine zr_bipush (v := (-2)) hO dX5_ranIn_13 (by decide) ?_
      exact zr_ireturn hO hE dX5_ranIn_15 (zpl_i (by first | ((simp only [cF_ranIn, if_neg c1, if_neg c6]) <;> rfl) | contradiction) rfl)
    · refine zr_iload_2 hO dX5_ranIn_9 ?_
      refine zr_if_ge (tgt := 16) hO dX5_ranIn_10 (by decide) (fun c10 => ?_) (fun c10 => ?_)
      · refine zr_aload_0 hO dX5_ranIn_16 ?_
        refine zr_getfr (c := 5) hO (by decide) (by decide) zf_X5_11 (zC_3 hM) rfl rfl dX5_ranIn_17 ?_
        refine zr_iload_1 hO dX5_ranIn_20 ?_
        refine zr_aaldIx hO (zC_4 hM) (by first | assumption | exact zin_c c1 c6 rfl) dX5_ranIn_21 (fun hx21_0 => ?_)
        refine zr_iload_2 hO dX5_ranIn_22 ?_
        refine zr_bipush (v := 30) hO dX5_ranIn_23 (by decide) ?_
        refine zr_irem hO dX5_ranIn_25 (by first | assumption | decide) ?_
        refine zV_pc (pc' := 26) rfl ?_
        refine zg_iald hO (zC_ran hM hx21_0) (by have := hx21_0; omega) (by first | assumption | exact zin_mod c10) dX5_ranIn_26 ?_
        exact zr_ireturn hO hE dX5_ranIn_27 (zpl_i (by first | ((simp only [cF_ranIn, if_neg c1, if_pos c6, if_neg c10]) <;> rfl) | contradiction) rfl)
      · refine zr_bipush (v := (-2)) hO dX5_ranIn_13 (by decide) ?_
        exact zr_ireturn hO hE dX5_ranIn_15 (zpl_i (by first | ((simp only [cF_ranIn, if_neg c1, if_pos c6, if_pos c10]) <;> rfl) | contradiction) rfl)
