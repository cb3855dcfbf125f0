set_option maxRecDepth 100000 in
set_option maxHeartbeats 4000000 in
theorem e_X7_refuse {l : Launch} {G : zGm} {d n o : Nat} {ly : zLy} {τ : zTu} {σ M : zSg} {v : Int32} (htr : l.stackTraces = false) (hM : zM ly o) (hd : 0 ≤ d)  : zEv l G d 0 0 (yX7_refuse, cX7_refuse, 2, some .int) [.ref o, .int v] (fun x => n ≤ x) ly τ (zwr σ o 103 M) (zPl n ly τ (zwr σ o 103 (mF_ref M v).1) (some (.int (mF_ref M v).2))) := by
  refine zEv_of (ls := [some (.ref o), some (.int v), none, none, none, none, none, none, none]) htr (by decide) (Nat.le_of_ble_eq_true rfl) rfl (fun X hO hE hN hRm hL hNm => ?_)
  have hO : zOk G X RX7 cX7_refuse 2 := hO
  refine zr_aload_0 hO dX7_refuse_0 ?_
  refine zr_iload_1 hO dX7_refuse_1 ?_
  refine zg_putfi0 (c := 7) hO (zM_0 hM) (by decide) (by decide) (by decide) zf_X7_120 rfl rfl dX7_refuse_2 ?_
  refine zr_iconst (v := 0) hO dX7_refuse_5 (by decide) ?_
  exact zr_ireturn hO hE dX7_refuse_6 (zpl_i (by first | ((simp only [mF_ref]) <;> rfl) | contradiction) (by first | ((simp only [mF_ref]) <;> rfl) | contradiction))
set_option maxRecDepth 100000 in
set_option maxHeartbeats 4000000 in
theorem e_X7_thrown {l : Launch} {G : zGm} {d n o : Nat} {ly : zLy} {τ : zTu} {σ M : zSg}  (htr : l.stackTraces = false) (hM : zM ly o) (hd : 0 ≤ d)  : zEv l G d 0 0 (yX7_thrown, cX7_thrown, 1, some .int) [.ref o] (fun x => n ≤ x) ly τ (zwr σ o 103 M) (zPl n ly τ (zwr σ o 103 M) (some (.int (M 0 0)))) := by
  refine zEv_of (ls := [some (.ref o), none, none, none, none, none, none, none, none]) htr (by decide) (Nat.le_of_ble_eq_true rfl) rfl (fun X hO hE hN hRm hL hNm => ?_)
  have hO : zOk G X RX7 cX7_thrown 1 := hO
  refine zr_aload_0 hO dX7_thrown_0 ?_
  refine zg_getfi0 (c := 7) hO (zM_0 hM) (by decide) (by decide) (by decide) zf_X7_120 rfl dX7_thrown_1 ?_
  exact zr_ireturn hO hE dX7_thrown_4 (zpl_i (by first | ((simp only [mF_ref]) <;> rfl) | contradiction) rfl)
set_option maxRecDepth 100000 in
set_option maxHeartbeats 4000000 in
theorem e_X7_those {l : Launch} {G : zGm} {d n o : Nat} {ly : zLy} {τ : zTu} {σ M : zSg} {its place : Int32} (htr : l.stackTraces = false) (hM : zM ly o) (hd : 0 ≤ d) (hW : zmW M) : zEv l G d 0 0 (yX7_those, cX7_those, 5, some .int) [.ref o, .int its, .int place] (fun x => n ≤ x) ly τ (zwr σ o 103 M) (zPl n ly τ (zwr σ o 103 M) (some (.int (mF_those M its place)))) := by
  refine zEv_of (ls := [some (.ref o), some (.int its), some (.int place), none, none, none, none, none, none]) htr (by decide) (Nat.le_of_ble_eq_true rfl) rfl (fun X hO hE hN hRm hL hNm => ?_)
  have hO : zOk G X RX7 cX7_those 5 := hO
  refine zr_iconst (v := 0) hO dX7_those_0 (by decide) ?_
  refine zr_istore_3 hO dX7_those_1 (by decide) rfl ?_
  refine zr_iconst (v := 0) hO dX7_those_2 (by decide) ?_
  refine zr_istore_4 hO dX7_those_3 (by decide) rfl ?_
  refine z_for (P := fun k s => zV G X 5 0 0 (fun x => n ≤ x) ly τ (zwr σ o 103 M) 5 [some (.ref o), some (.int its), some (.int place), some (.int s), some (.int (nI k)), none, none, none, none] []) (ix (M 0 15)) (mB_those M its place) (fun _ _ => True) 0 trivial (fun _ _ _ _ => trivial) ?_ ?_
  · intro k s hk hIk ih
    have hk16 : k < 16 := by have := zmW_n16 hW; omega
    refine zr_iload_4 hO dX7_those_5 ?_
    refine zr_aload_0 hO dX7_those_7 ?_
    refine zg_getfi0 (c := 7) hO (zM_0 hM) (by decide) (by decide) (by decide) zf_X7_110 rfl dX7_those_8 ?_
    refine zr_icmp_ge (tgt := 53) hO dX7_those_11 (by decide) (fun c11 => ?_) (fun c11 => ?_)
    · exact absurd (zlt_T (zmW_n hW) hk) c11
    · refine zr_iload_3 hO dX7_those_14 ?_
      refine zr_aload_0 hO dX7_those_15 ?_
      refine zr_getfr (c := 7) hO (by decide) (by decide) zf_X7_46 (zM_0 hM) rfl rfl dX7_those_16 ?_
      refine zr_iload_4 hO dX7_those_19 ?_
      refine zg_ialdN hO (zM_41 hM) (by decide) (by omega) (by decide) dX7_those_21 ?_
      refine zr_iload_1 hO dX7_those_22 ?_
      refine zr_icmp_ne (tgt := 44) hO dX7_those_23 (by decide) (fun c23 => ?_) (fun c23 => ?_)
      · refine zr_iconst (v := 0) hO dX7_those_44 (by decide) ?_
        refine zr_ior hO dX7_those_45 ?_
        refine zr_istore_3 hO dX7_those_46 (by decide) rfl ?_
        refine zr_iinc_4 (v := 1) hO dX7_those_47 (by decide) (by decide) rfl ?_
        refine zr_goto (tgt := 5) hO dX7_those_50 (by decide) ?_
        rw [nI_1]
        simp only [mB_those, if_pos c11, if_neg c23] at ih
        first | exact ih | contradiction
      · refine zr_aload_0 hO dX7_those_26 ?_
        refine zr_getfr (c := 7) hO (by decide) (by decide) zf_X7_70 (zM_0 hM) rfl rfl dX7_those_27 ?_
        refine zr_iload_4 hO dX7_those_30 ?_
        refine zg_ialdN hO (zM_49 hM) (by decide) (by omega) (by decide) dX7_those_32 ?_
        refine zr_iload_2 hO dX7_those_33 ?_
        refine zr_icmp_ne (tgt := 44) hO dX7_those_34 (by decide) (fun c34 => ?_) (fun c34 => ?_)
        · refine zr_iconst (v := 0) hO dX7_those_44 (by decide) ?_
          refine zr_ior hO dX7_those_45 ?_
          refine zr_istore_3 hO dX7_those_46 (by decide) rfl ?_
          refine zr_iinc_4 (v := 1) hO dX7_those_47 (by decide) (by decide) rfl ?_
          refine zr_goto (tgt := 5) hO dX7_those_50 (by decide) ?_
          rw [nI_1]
          simp only [mB_those, if_pos c11, if_pos c23, if_neg c34] at ih
          first | exact ih | contradiction
        · refine zr_iconst (v := 1) hO dX7_those_37 (by decide) ?_
          refine zr_iload_4 hO dX7_those_38 ?_
          refine zr_ishl hO dX7_those_40 ?_
          refine zr_goto (tgt := 45) hO dX7_those_41 (by decide) ?_
          refine zr_ior hO dX7_those_45 ?_
          refine zr_istore_3 hO dX7_those_46 (by decide) rfl ?_
          refine zr_iinc_4 (v := 1) hO dX7_those_47 (by decide) (by decide) rfl ?_
          refine zV_pc (pc' := 50) rfl ?_
          refine zr_goto (tgt := 5) hO dX7_those_50 (by decide) ?_
          rw [nI_1]
          simp only [mB_those, if_pos c11, if_pos c23, if_pos c34] at ih
          first | exact ih | contradiction
  · intro hIk
    refine zr_iload_4 hO dX7_those_5 ?_
    refine zr_aload_0 hO dX7_those_7 ?_
    refine zg_getfi0 (c := 7) hO (zM_0 hM) (by decide) (by decide) (by decide) zf_X7_110 rfl dX7_those_8 ?_
    refine zr_icmp_ge (tgt := 53) hO dX7_those_11 (by decide) (fun c11 => ?_) (fun c11 => ?_)
    · refine zr_iload_3 hO dX7_those_53 ?_
      exact zr_ireturn hO hE dX7_those_54 (zpl_i (by first | ((simp only [mF_those, if_neg c11]) <;> rfl) | contradiction) rfl)
    · exact absurd c11 (zlt_F (zmW_n hW))
set_option maxRecDepth 100000 in
set_option maxHeartbeats 4000000 in
theorem e_X7_stuckNow {l : Launch} {G : zGm} {d n o : Nat} {ly : zLy} {τ : zTu} {σ M : zSg}  (htr : l.stackTraces = false) (hM : zM ly o) (hd : 0 ≤ d) (hW : zmW M) (hB : zBl M) : zEv l G d 0 0 (yX7_stuckNow, cX7_stuckNow, 5, some .int) [.ref o] (fun x => n ≤ x) ly τ (zwr σ o 103 M) (zPl n ly τ (zwr σ o 103 M) (some (.int (mF_stuck M)))) := by
  refine zEv_of (ls := [some (.ref o), none, none, none, none, none, none, none, none]) htr (by decide) (Nat.le_of_ble_eq_true rfl) rfl (fun X hO hE hN hRm hL hNm => ?_)
  have hO : zOk G X RX7 cX7_stuckNow 5 := hO
  refine zr_iconst (v := 0) hO dX7_stuckNow_0 (by decide) ?_
  refine zr_istore_1 hO dX7_stuckNow_1 (by decide) rfl ?_
  refine zr_iconst (v := 0) hO dX7_stuckNow_2 (by decide) ?_
  refine zr_istore_2 hO dX7_stuckNow_3 (by decide) rfl ?_
  refine z_for (P := fun k s => zV G X 5 0 0 (fun x => n ≤ x) ly τ (zwr σ o 103 M) 4 [some (.ref o), some (.int s), some (.int (nI k)), none, none, none, none, none, none] []) (ix (M 0 15)) (mB_stuck M) (fun _ _ => True) 0 trivial (fun _ _ _ _ => trivial) ?_ ?_
  · intro k s hk hIk ih
    have hk16 : k < 16 := by have := zmW_n16 hW; omega
    have hn32 : ix (M 0 15) ≤ 16 := zmW_n16 hW
    refine zr_iload_2 hO dX7_stuckNow_4 ?_
    refine zr_aload_0 hO dX7_stuckNow_5 ?_
    refine zg_getfi0 (c := 7) hO (zM_0 hM) (by decide) (by decide) (by decide) zf_X7_110 rfl dX7_stuckNow_6 ?_
    refine zr_icmp_ge (tgt := 80) hO dX7_stuckNow_9 (by decide) (fun c9 => ?_) (fun c9 => ?_)
    · exact absurd (zlt_T (zmW_n hW) hk) c9
    · refine zr_iload_2 hO dX7_stuckNow_12 ?_
      refine zr_istore_3 hO dX7_stuckNow_13 (by decide) rfl ?_
      refine zr_iconst (v := 0) hO dX7_stuckNow_14 (by decide) ?_
      refine zr_istore_4 hO dX7_stuckNow_15 (by decide) rfl ?_
      have key17 : ∀ (j i : Nat) (t : Int32), i + j = ix (M 0 15) + 1 → vp_in t 16 → (∀ t', t' = mF_chase M j t → vp_in t' 16 → zV G X 5 0 0 (fun x => n ≤ x) ly τ (zwr σ o 103 M) 54 [some (.ref o), some (.int s), some (.int (nI k)), some (.int t'), none, none, none, none, none] []) → zV G X 5 0 0 (fun x => n ≤ x) ly τ (zwr σ o 103 M) 17 [some (.ref o), some (.int s), some (.int (nI k)), some (.int t), some (.int (nI i)), none, none, none, none] [] := by
        intro j
        induction j with
        | zero =>
          intro i t hi ht hk9
          refine zr_iload_4 hO dX7_stuckNow_17 ?_
          refine zr_aload_0 hO dX7_stuckNow_19 ?_
          refine zg_getfi0 (c := 7) hO (zM_0 hM) (by decide) (by decide) (by decide) zf_X7_110 rfl dX7_stuckNow_20 ?_
          refine zr_icmp_gt (tgt := 54) hO dX7_stuckNow_23 (by decide) (fun c23 => ?_) (fun c23 => ?_)
          · refine zV_d4 ?_
            exact hk9 _ rfl ht
          · exact absurd (show M 0 15 < nI i by rw [Int32.lt_iff_toInt_lt, nI_toInt (by omega)]; have := ztoInt (zmW_n hW); omega) c23
        | succ j ihj =>
          intro i t hi ht hk9
          refine zr_iload_4 hO dX7_stuckNow_17 ?_
          refine zr_aload_0 hO dX7_stuckNow_19 ?_
          refine zg_getfi0 (c := 7) hO (zM_0 hM) (by decide) (by decide) (by decide) zf_X7_110 rfl dX7_stuckNow_20 ?_
          refine zr_icmp_gt (tgt := 54) hO dX7_stuckNow_23 (by decide) (fun c23 => ?_) (fun c23 => ?_)
          · exact absurd c23 (show ¬ M 0 15 < nI i by rw [Int32.lt_iff_toInt_lt, nI_toInt (by omega)]; have := ztoInt (zmW_n hW); omega)
          · refine zr_aload_0 hO dX7_stuckNow_26 ?_
            refine zr_getfr (c := 7) hO (by decide) (by decide) zf_X7_46 (zM_0 hM) rfl rfl dX7_stuckNow_27 ?_
            refine zr_iload_3 hO dX7_stuckNow_30 ?_
            refine zg_iald hO (zM_41 hM) (by decide) (by first | assumption | exact zin_bl hW hB (zin_lt ht) c33 | exact zmW_at hW _ | exact ht') dX7_stuckNow_31 ?_
            refine zr_iconst (v := 4) hO dX7_stuckNow_32 (by decide) ?_
            refine zr_icmp_ne (tgt := 54) hO dX7_stuckNow_33 (by decide) (fun c33 => ?_) (fun c33 => ?_)
            · refine zV_d4 ?_
              exact hk9 _ (by rw [mF_chase, if_neg c33]) ht
            · refine zr_aload_0 hO dX7_stuckNow_36 ?_
              refine zr_getfr (c := 7) hO (by decide) (by decide) zf_X7_88 (zM_0 hM) rfl rfl dX7_stuckNow_37 ?_
              refine zr_aload_0 hO dX7_stuckNow_40 ?_
              refine zr_getfr (c := 7) hO (by decide) (by decide) zf_X7_70 (zM_0 hM) rfl rfl dX7_stuckNow_41 ?_
              refine zr_iload_3 hO dX7_stuckNow_44 ?_
              refine zg_iald hO (zM_49 hM) (by decide) (by first | assumption | exact zin_bl hW hB (zin_lt ht) c33 | exact zmW_at hW _ | exact ht') dX7_stuckNow_45 ?_
              refine zg_iald hO (zM_101 hM) (by decide) (by first | assumption | exact zin_bl hW hB (zin_lt ht) c33 | exact zmW_at hW _ | exact ht') dX7_stuckNow_46 ?_
              refine zV_pc (pc' := 47) rfl ?_
              refine zr_istore_3 hO dX7_stuckNow_47 (by decide) rfl ?_
              refine zr_iinc_4 (v := 1) hO dX7_stuckNow_48 (by decide) (by decide) rfl ?_
              refine zr_goto (tgt := 17) hO dX7_stuckNow_51 (by decide) ?_
              rw [nI_1]
              exact ihj (i + 1) _ (by omega) (zin_bl hW hB (zin_lt ht) c33) (fun t2 h2 h3 => hk9 t2 (by rw [mF_chase, if_pos c33]; exact h2) h3)
      rw [← nI_0]
      refine key17 (ix (M 0 15) + 1) 0 _ (by omega) (vp_in_nI hk16 (by decide)) (fun t' he ht' => ?_)
      subst he
      refine zr_iload_1 hO dX7_stuckNow_54 ?_
      refine zr_aload_0 hO dX7_stuckNow_55 ?_
      refine zr_getfr (c := 7) hO (by decide) (by decide) zf_X7_46 (zM_0 hM) rfl rfl dX7_stuckNow_56 ?_
      refine zr_iload_3 hO dX7_stuckNow_59 ?_
      refine zg_iald hO (zM_41 hM) (by decide) (by first | assumption | exact zin_bl hW hB (zin_lt ht) c33 | exact zmW_at hW _ | exact ht') dX7_stuckNow_60 ?_
      refine zr_iconst (v := 4) hO dX7_stuckNow_61 (by decide) ?_
      refine zr_icmp_ne (tgt := 71) hO dX7_stuckNow_62 (by decide) (fun c62 => ?_) (fun c62 => ?_)
      · refine zr_iconst (v := 0) hO dX7_stuckNow_71 (by decide) ?_
        refine zr_ior hO dX7_stuckNow_72 ?_
        refine zr_istore_1 hO dX7_stuckNow_73 (by decide) rfl ?_
        refine zr_iinc_2 (v := 1) hO dX7_stuckNow_74 (by decide) (by decide) rfl ?_
        refine zr_goto (tgt := 4) hO dX7_stuckNow_77 (by decide) ?_
        refine zV_d3 ?_
        rw [nI_1]
        simp only [mB_stuck, if_pos c9, if_neg c62] at ih
        first | exact ih | contradiction
      · refine zr_iconst (v := 1) hO dX7_stuckNow_65 (by decide) ?_
        refine zr_iload_2 hO dX7_stuckNow_66 ?_
        refine zr_ishl hO dX7_stuckNow_67 ?_
        refine zr_goto (tgt := 72) hO dX7_stuckNow_68 (by decide) ?_
        refine zr_ior hO dX7_stuckNow_72 ?_
        refine zr_istore_1 hO dX7_stuckNow_73 (by decide) rfl ?_
        refine zr_iinc_2 (v := 1) hO dX7_stuckNow_74 (by decide) (by decide) rfl ?_
        refine zV_pc (pc' := 77) rfl ?_
        refine zr_goto (tgt := 4) hO dX7_stuckNow_77 (by decide) ?_
        refine zV_d3 ?_
        rw [nI_1]
        simp only [mB_stuck, if_pos c9, if_pos c62] at ih
        first | exact ih | contradiction
  · intro hIk
    refine zr_iload_2 hO dX7_stuckNow_4 ?_
    refine zr_aload_0 hO dX7_stuckNow_5 ?_
    refine zg_getfi0 (c := 7) hO (zM_0 hM) (by decide) (by decide) (by decide) zf_X7_110 rfl dX7_stuckNow_6 ?_
    refine zr_icmp_ge (tgt := 80) hO dX7_stuckNow_9 (by decide) (fun c9 => ?_) (fun c9 => ?_)
    · refine zr_iload_1 hO dX7_stuckNow_80 ?_
      exact zr_ireturn hO hE dX7_stuckNow_81 (zpl_i (by first | ((simp only [mF_stuck, if_neg c9]) <;> rfl) | contradiction) rfl)
    · exact absurd c9 (zlt_F (zmW_n hW))
set_option maxRecDepth 100000 in
set_option maxHeartbeats 4000000 in
theorem e_X7_ranNow {l : Launch} {G : zGm} {d n o : Nat} {ly : zLy} {τ : zTu} {σ M : zSg} {p b : Int32} (htr : l.stackTraces = false) (hM : zM ly o) (hd : 0 ≤ d) (hp : vp_in p 3) (hb : vp_in (b - 1) 30) : zEv l G d 0 0 (yX7_ranNow, cX7_ranNow, 3, some .int) [.ref o, .int p, .int b] (fun x => n ≤ x) ly τ (zwr σ o 103 M) (zPl n ly τ (zwr σ o 103 M) (some (.int (mF_ran M p b)))) := by
  refine zEv_of (ls := [some (.ref o), some (.int p), some (.int b), none, none, none, none, none, none]) htr (by decide) (Nat.le_of_ble_eq_true rfl) rfl (fun X hO hE hN hRm hL hNm => ?_)
  have hO : zOk G X RX7 cX7_ranNow 3 := hO
  refine zr_iload_2 hO dX7_ranNow_0 ?_
  refine zr_aload_0 hO dX7_ranNow_1 ?_
  refine zg_getfi0 (c := 7) hO (zM_0 hM) (by decide) (by decide) (by decide) zf_X7_95 rfl dX7_ranNow_2 ?_
  refine zr_icmp_le (tgt := 13) hO dX7_ranNow_5 (by decide) (fun c5 => ?_) (fun c5 => ?_)
  · refine zr_aload_0 hO dX7_ranNow_13 ?_
    refine zr_getfr (c := 7) hO (by decide) (by decide) zf_X7_85 (zM_0 hM) rfl rfl dX7_ranNow_14 ?_
    refine zr_iload_2 hO dX7_ranNow_17 ?_
    refine zr_iconst (v := 1) hO dX7_ranNow_18 (by decide) ?_
    refine zr_isub hO dX7_ranNow_19 ?_
    refine zr_aaldIx hO (zM_70 hM) (by first | assumption) dX7_ranNow_20 (fun hx20_0 => ?_)
    refine zr_iload_1 hO dX7_ranNow_21 ?_
    refine zV_pc (pc' := 22) rfl ?_
    refine zg_iald hO (zM_ran hM hx20_0) (by have := hx20_0; omega) (by first | assumption) dX7_ranNow_22 ?_
    exact zr_ireturn hO hE dX7_ranNow_23 (zpl_i (by first | ((simp only [mF_ran, if_neg c5]) <;> rfl) | contradiction) rfl)
  · refine zr_bipush (v := (-2)) hO dX7_ranNow_8 (by decide) ?_
    refine zr_goto (tgt := 23) hO dX7_ranNow_10 (by decide) ?_
    exact zr_ireturn hO hE dX7_ranNow_23 (zpl_i (by first | ((simp only [mF_ran, if_pos c5]) <;> rfl) | contradiction) rfl)
set_option maxRecDepth 100000 in
set_option maxHeartbeats 4000000 in
theorem e_X7_isNumber {l : Launch} {G : zGm} {d n : Nat} {ly : zLy} {τ : zTu} {σ : zSg} {its q : Int32} (htr : l.stackTraces = false) (hd : 1 ≤ d)  : zEv l G d 0 0 (yX7_isNumber, cX7_isNumber, 2, some .boolean) [.int its, .int q] (fun x => n ≤ x) ly τ σ (zPl n ly τ σ (some (.int (zb (mF_isNum its q))))) := by
  refine zEv_of (ls := [some (.int its), some (.int q), none, none, none, none, none, none, none]) htr (by decide) (Nat.le_of_ble_eq_true rfl) rfl (fun X hO hE hN hRm hL hNm => ?_)
  have hO : zOk G X RX7 cX7_isNumber 2 := hO
  refine zr_iload_0 hO dX7_isNumber_0 ?_
  refine zr_bipush (v := 6) hO dX7_isNumber_1 (by decide) ?_
  refine zr_icmp_eq (tgt := 43) hO dX7_isNumber_3 (by decide) (fun c3 => ?_) (fun c3 => ?_)
  · refine zr_iconst (v := 1) hO dX7_isNumber_43 (by decide) ?_
    refine zr_goto (tgt := 48) hO dX7_isNumber_44 (by decide) ?_
    exact zr_zreturn hO hE (by decide) dX7_isNumber_48 (zpl_is (by first | ((simp only [mF_isNum, if_pos c3]) <;> rfl) | contradiction))
  · refine zr_iload_1 hO dX7_isNumber_6 ?_
    refine zr_iload_0 hO dX7_isNumber_7 ?_
    refine zr_iconst (v := 1) hO dX7_isNumber_8 (by decide) ?_
    refine zr_icmp_gt (tgt := 16) hO dX7_isNumber_9 (by decide) (fun c9 => ?_) (fun c9 => ?_)
    · refine zr_iconst (v := 0) hO dX7_isNumber_16 (by decide) ?_
      refine zr_iload_0 hO dX7_isNumber_17 ?_
      refine zr_if_ne (tgt := 26) hO dX7_isNumber_18 (by decide) (fun c18 => ?_) (fun c18 => ?_)
      · refine zr_iload_0 hO dX7_isNumber_26 ?_
        refine zr_iconst (v := 1) hO dX7_isNumber_27 (by decide) ?_
        refine zr_icmp_ne (tgt := 36) hO dX7_isNumber_28 (by decide) (fun c28 => ?_) (fun c28 => ?_)
        · refine zr_iconst (v := 5) hO dX7_isNumber_36 (by decide) ?_
          refine zr_S3 (D := d) hO hRm hL (by omega) (by decide) rfl (e_X7_is (d := d - 1) htr (by omega)) zl_X7_123 zt_X7_is zc_X7_is zn_X7 zd_X7_is (Nat.le_of_ble_eq_true rfl) dX7_isNumber_37 (by omega) (by omega) ?_
          refine zr_ifb_eq (tgt := 47) hO dX7_isNumber_40 (by decide) (fun c40 => ?_) (fun c40 => ?_)
          · refine zr_iconst (v := 0) hO dX7_isNumber_47 (by decide) ?_
            exact zr_zreturn hO hE (by decide) dX7_isNumber_48 (zpl_is (by first | ((simp only [mF_isNum, if_neg c3, if_pos c9, if_neg c18, if_neg c28, if_neg (zif_f c40)]) <;> rfl) | contradiction))
          · refine zr_iconst (v := 1) hO dX7_isNumber_43 (by decide) ?_
            refine zr_goto (tgt := 48) hO dX7_isNumber_44 (by decide) ?_
            exact zr_zreturn hO hE (by decide) dX7_isNumber_48 (zpl_is (by first | ((simp only [mF_isNum, if_neg c3, if_pos c9, if_neg c18, if_neg c28, if_pos c40]) <;> rfl) | contradiction))
        · refine zr_bipush (v := 40) hO dX7_isNumber_31 (by decide) ?_
          refine zr_goto (tgt := 37) hO dX7_isNumber_33 (by decide) ?_
          refine zr_S3 (D := d) hO hRm hL (by omega) (by decide) rfl (e_X7_is (d := d - 1) htr (by omega)) zl_X7_123 zt_X7_is zc_X7_is zn_X7 zd_X7_is (Nat.le_of_ble_eq_true rfl) dX7_isNumber_37 (by omega) (by omega) ?_
          refine zr_ifb_eq (tgt := 47) hO dX7_isNumber_40 (by decide) (fun c40 => ?_) (fun c40 => ?_)
          · refine zr_iconst (v := 0) hO dX7_isNumber_47 (by decide) ?_
            exact zr_zreturn hO hE (by decide) dX7_isNumber_48 (zpl_is (by first | ((simp only [mF_isNum, if_neg c3, if_pos c9, if_neg c18, if_pos c28, if_neg (zif_f c40)]) <;> rfl) | contradiction))
          · refine zr_iconst (v := 1) hO dX7_isNumber_43 (by decide) ?_
            refine zr_goto (tgt := 48) hO dX7_isNumber_44 (by decide) ?_
            exact zr_zreturn hO hE (by decide) dX7_isNumber_48 (zpl_is (by first | ((simp only [mF_isNum, if_neg c3, if_pos c9, if_neg c18, if_pos c28, if_pos c40]) <;> rfl) | contradiction))
      · refine zr_bipush (v := 20) hO dX7_isNumber_21 (by decide) ?_
        refine zr_goto (tgt := 37) hO dX7_isNumber_23 (by decide) ?_
        refine zr_S3 (D := d) hO hRm hL (by omega) (by decide) rfl (e_X7_is (d := d - 1) htr (by omega)) zl_X7_123 zt_X7_is zc_X7_is zn_X7 zd_X7_is (Nat.le_of_ble_eq_true rfl) dX7_isNumber_37 (by omega) (by omega) ?_
        refine zr_ifb_eq (tgt := 47) hO dX7_isNumber_40 (by decide) (fun c40 => ?_) (fun c40 => ?_)
        · refine zr_iconst (v := 0) hO dX7_isNumber_47 (by decide) ?_
          exact zr_zreturn hO hE (by decide) dX7_isNumber_48 (zpl_is (by first | ((simp only [mF_isNum, if_neg c3, if_pos c9, if_pos c18, if_neg (zif_f c40)]) <;> rfl) | contradiction))
        · refine zr_iconst (v := 1) hO dX7_isNumber_43 (by decide) ?_
          refine zr_goto (tgt := 48) hO dX7_isNumber_44 (by decide) ?_
          exact zr_zreturn hO hE (by decide) dX7_isNumber_48 (zpl_is (by first | ((simp only [mF_isNum, if_neg c3, if_pos c9, if_pos c18, if_pos c40]) <;> rfl) | contradiction))
    · refine zr_iconst (v := 1) hO dX7_isNumber_12 (by decide) ?_
      refine zr_goto (tgt := 17) hO dX7_isNumber_13 (by decide) ?_
      refine zr_iload_0 hO dX7_isNumber_17 ?_
      refine zr_if_ne (tgt := 26) hO dX7_isNumber_18 (by decide) (fun c18 => ?_) (fun c18 => ?_)
      · refine zr_iload_0 hO dX7_isNumber_26 ?_
        refine zr_iconst (v := 1) hO dX7_isNumber_27 (by decide) ?_
        refine zr_icmp_ne (tgt := 36) hO dX7_isNumber_28 (by decide) (fun c28 => ?_) (fun c28 => ?_)
        · refine zr_iconst (v := 5) hO dX7_isNumber_36 (by decide) ?_
          refine zr_S3 (D := d) hO hRm hL (by omega) (by decide) rfl (e_X7_is (d := d - 1) htr (by omega)) zl_X7_123 zt_X7_is zc_X7_is zn_X7 zd_X7_is (Nat.le_of_ble_eq_true rfl) dX7_isNumber_37 (by omega) (by omega) ?_
          refine zr_ifb_eq (tgt := 47) hO dX7_isNumber_40 (by decide) (fun c40 => ?_) (fun c40 => ?_)
          · refine zr_iconst (v := 0) hO dX7_isNumber_47 (by decide) ?_
            exact zr_zreturn hO hE (by decide) dX7_isNumber_48 (zpl_is (by first | ((simp only [mF_isNum, if_neg c3, if_neg c9, if_neg c18, if_neg c28, if_neg (zif_f c40)]) <;> rfl) | contradiction))
          · refine zr_iconst (v := 1) hO dX7_isNumber_43 (by decide) ?_
            refine zr_goto (tgt := 48) hO dX7_isNumber_44 (by decide) ?_
            exact zr_zreturn hO hE (by decide) dX7_isNumber_48 (zpl_is (by first | ((simp only [mF_isNum, if_neg c3, if_neg c9, if_neg c18, if_neg c28, if_pos c40]) <;> rfl) | contradiction))
        · refine zr_bipush (v := 40) hO dX7_isNumber_31 (by decide) ?_
          refine zr_goto (tgt := 37) hO dX7_isNumber_33 (by decide) ?_
          refine zr_S3 (D := d) hO hRm hL (by omega) (by decide) rfl (e_X7_is (d := d - 1) htr (by omega)) zl_X7_123 zt_X7_is zc_X7_is zn_X7 zd_X7_is (Nat.le_of_ble_eq_true rfl) dX7_isNumber_37 (by omega) (by omega) ?_
          refine zr_ifb_eq (tgt := 47) hO dX7_isNumber_40 (by decide) (fun c40 => ?_) (fun c40 => ?_)
          · refine zr_iconst (v := 0) hO dX7_isNumber_47 (by decide) ?_
            exact zr_zreturn hO hE (by decide) dX7_isNumber_48 (zpl_is (by first | ((simp only [mF_isNum, if_neg c3, if_neg c9, if_neg c18, if_pos c28, if_neg (zif_f c40)]) <;> rfl) | contradiction))
          · refine zr_iconst (v := 1) hO dX7_isNumber_43 (by decide) ?_
            refine zr_goto (tgt := 48) hO dX7_isNumber_44 (by decide) ?_
            exact zr_zreturn hO hE (by decide) dX7_isNumber_48 (zpl_is (by first | ((simp only [mF_isNum, if_neg c3, if_neg c9, if_neg c18, if_pos c28, if_pos c40]) <;> rfl) | contradiction))
      · refine zr_bipush (v := 20) hO dX7_isNumber_21 (by decide) ?_
        refine zr_goto (tgt := 37) hO dX7_isNumber_23 (by decide) ?_
        refine zr_S3 (D := d) hO hRm hL (by omega) (by decide) rfl (e_X7_is (d := d - 1) htr (by omega)) zl_X7_123 zt_X7_is zc_X7_is zn_X7 zd_X7_is (Nat.le_of_ble_eq_true rfl) dX7_isNumber_37 (by omega) (by omega) ?_
        refine zr_ifb_eq (tgt := 47) hO dX7_isNumber_40 (by decide) (fun c40 => ?_) (fun c40 => ?_)
        · refine zr_iconst (v := 0) hO dX7_isNumber_47 (by decide) ?_
          exact zr_zreturn hO hE (by decide) dX7_isNumber_48 (zpl_is (by first | ((simp only [mF_isNum, if_neg c3, if_neg c9, if_pos c18, if_neg (zif_f c40)]) <;> rfl) | contradiction))
        · refine zr_iconst (v := 1) hO dX7_isNumber_43 (by decide) ?_
          refine zr_goto (tgt := 48) hO dX7_isNumber_44 (by decide) ?_
          exact zr_zreturn hO hE (by decide) dX7_isNumber_48 (zpl_is (by first | ((simp only [mF_isNum, if_neg c3, if_neg c9, if_pos c18, if_pos c40]) <;> rfl) | contradiction))
set_option maxRecDepth 100000 in
set_option maxHeartbeats 4000000 in
theorem e_X7_setProcessors {l : Launch} {G : zGm} {d n o : Nat} {ly : zLy} {τ : zTu} {σ M : zSg} {p : Int32} (htr : l.stackTraces = false) (hM : zM ly o) (hd : 2 ≤ d) (hW : zmW M) : zEv l G d 0 0 (yX7_setProcessors, cX7_setProcessors, 4, some .int) [.ref o, .int p] (fun x => n ≤ x) ly τ (zwr σ o 103 M) (zPl n ly τ (zwr σ o 103 (mP_setProcessors M p).1) (some (.int (mP_setProcessors M p).2))) := by
  refine zEv_of (ls := [some (.ref o), some (.int p), none, none, none, none, none, none, none]) htr (by decide) (Nat.le_of_ble_eq_true rfl) rfl (fun X hO hE hN hRm hL hNm => ?_)
  have hO : zOk G X RX7 cX7_setProcessors 4 := hO
  have hW0 := zmW_0 hW
  refine zr_aload_0 hO dX7_setProcessors_0 ?_
  refine zr_iconst (v := 0) hO dX7_setProcessors_1 (by decide) ?_
  refine zg_putfi0 (c := 7) hO (zM_0 hM) (by decide) (by decide) (by decide) zf_X7_120 rfl rfl dX7_setProcessors_2 ?_
  refine zr_iload_1 hO dX7_setProcessors_5 ?_
  refine zr_iconst (v := 1) hO dX7_setProcessors_6 (by decide) ?_
  refine zr_iconst (v := 3) hO dX7_setProcessors_7 (by decide) ?_
  refine zr_S3 (D := d) hO hRm hL (by omega) (by decide) rfl (e_X7_is (d := d - 1) htr (by omega)) zl_X7_123 zt_X7_is zc_X7_is zn_X7 zd_X7_is (Nat.le_of_ble_eq_true rfl) dX7_setProcessors_8 (by omega) (by omega) ?_
  refine zV_pc (pc' := 11) rfl ?_
  refine zr_ifb_ne (tgt := 20) hO dX7_setProcessors_11 (by decide) (fun c11 => ?_) (fun c11 => ?_)
  · refine zr_aload_0 hO dX7_setProcessors_20 ?_
    refine zg_getfi0 (c := 7) hO (zM_0 hM) (by decide) (by decide) (by decide) zf_X7_16 rfl dX7_setProcessors_21 ?_
    refine zr_istore_2 hO dX7_setProcessors_24 (by decide) rfl ?_
    refine zr_iconst (v := 0) hO dX7_setProcessors_25 (by decide) ?_
    refine zr_istore_3 hO dX7_setProcessors_26 (by decide) rfl ?_
    refine z_for (P := fun k s => zV G X 4 0 0 (fun x => n ≤ x) ly τ (zwr σ o 103 s) 27 [some (.ref o), some (.int p), some (.int ((zup M 0 0 0) 0 6)), some (.int (nI k)), none, none, none, none, none] []) 3 mB_sp (fun _ s => zk (zup M 0 0 0) s) (zup M 0 0 0) (zk_r hW0) (fun i s _ h => zk_sp1 h i) ?_ ?_
    · intro k s hk hIk ih
      refine zr_iload_3 hO dX7_setProcessors_27 ?_
      refine zr_iconst (v := 3) hO dX7_setProcessors_28 (by decide) ?_
      refine zr_icmp_ge (tgt := 70) hO dX7_setProcessors_29 (by decide) (fun c29 => ?_) (fun c29 => ?_)
      · exact absurd (zlt_T (x := 3) (by decide) hk) c29
      · refine zr_aload_0 hO dX7_setProcessors_32 ?_
        refine zr_getfr (c := 7) hO (by decide) (by decide) zf_X7_79 (zM_0 hM) rfl rfl dX7_setProcessors_33 ?_
        refine zr_iload_3 hO dX7_setProcessors_36 ?_
        refine zg_ialdN hO (zM_68 hM) (by decide) (by omega) (by decide) dX7_setProcessors_37 ?_
        refine zr_iconst (v := (-1)) hO dX7_setProcessors_38 (by decide) ?_
        refine zr_icmp_ne (tgt := 45) hO dX7_setProcessors_39 (by decide) (fun c39 => ?_) (fun c39 => ?_)
        · refine zr_aload_0 hO dX7_setProcessors_45 ?_
          refine zr_getfr (c := 7) hO (by decide) (by decide) zf_X7_46 (zM_0 hM) rfl rfl dX7_setProcessors_46 ?_
          refine zr_aload_0 hO dX7_setProcessors_49 ?_
          refine zr_getfr (c := 7) hO (by decide) (by decide) zf_X7_79 (zM_0 hM) rfl rfl dX7_setProcessors_50 ?_
          refine zr_iload_3 hO dX7_setProcessors_53 ?_
          refine zg_ialdN hO (zM_68 hM) (by decide) (by omega) (by decide) dX7_setProcessors_54 ?_
          refine zr_iconst (v := 1) hO dX7_setProcessors_55 (by decide) ?_
          refine zV_pc (pc' := 56) rfl ?_
          refine zg_iast hO (zM_41 hM) (by decide) (by first | assumption | exact zin_m1 (b := 15) (hIk.1 68 _) (by decide) c39 | exact zin_task hW0 (by assumption) | exact zin_is (by assumption) (by decide) (by decide) | exact zin_proc hW0 (by assumption)) dX7_setProcessors_56 ?_
          refine zr_aload_0 hO dX7_setProcessors_57 ?_
          refine zr_getfr (c := 7) hO (by decide) (by decide) zf_X7_79 (zM_0 hM) rfl rfl dX7_setProcessors_58 ?_
          refine zr_iload_3 hO dX7_setProcessors_61 ?_
          refine zr_iconst (v := (-1)) hO dX7_setProcessors_62 (by decide) ?_
          refine zg_iastN hO (zM_68 hM) (by decide) (by omega) (by decide) dX7_setProcessors_63 ?_
          refine zr_iinc_3 (v := 1) hO dX7_setProcessors_64 (by decide) (by decide) rfl ?_
          refine zV_pc (pc' := 67) rfl ?_
          refine zr_goto (tgt := 27) hO dX7_setProcessors_67 (by decide) ?_
          rw [nI_1]
          simp only [mB_sp, if_pos c29, if_neg c39] at ih
          first | exact ih | contradiction
        · refine zr_goto (tgt := 64) hO dX7_setProcessors_42 (by decide) ?_
          refine zr_iinc_3 (v := 1) hO dX7_setProcessors_64 (by decide) (by decide) rfl ?_
          refine zr_goto (tgt := 27) hO dX7_setProcessors_67 (by decide) ?_
          rw [nI_1]
          simp only [mB_sp, if_pos c29, if_pos c39] at ih
          first | exact ih | contradiction
    · intro hIk
      refine zr_iload_3 hO dX7_setProcessors_27 ?_
      refine zr_iconst (v := 3) hO dX7_setProcessors_28 (by decide) ?_
      refine zr_icmp_ge (tgt := 70) hO dX7_setProcessors_29 (by decide) (fun c29 => ?_) (fun c29 => ?_)
      · refine zr_aload_0 hO dX7_setProcessors_70 ?_
        refine zr_iload_1 hO dX7_setProcessors_71 ?_
        refine zg_putfi0 (c := 7) hO (zM_0 hM) (by decide) (by decide) (by decide) zf_X7_16 rfl rfl dX7_setProcessors_72 ?_
        refine zr_iload_2 hO dX7_setProcessors_75 ?_
        exact zr_ireturn hO hE dX7_setProcessors_76 (zpl_i (by first | ((simp only [mP_setProcessors, mF_ref, if_pos c11, if_neg c29]) <;> rfl) | contradiction) (by first | ((simp only [mP_setProcessors, mF_ref, if_pos c11, if_neg c29]) <;> rfl) | contradiction))
      · exact absurd c29 (zlt_F (x := 3) (by decide))
  · refine zr_aload_0 hO dX7_setProcessors_14 ?_
    refine zr_iconst (v := 1) hO dX7_setProcessors_15 (by decide) ?_
    refine zr_V1 (D := d) hO hRm hL (by omega) (by decide) (c := 7) (by decide) (zM_0 hM) rfl rfl (e_X7_refuse (d := d - 1) htr hM (by omega)) zl_X7_218 zi_X7_refuse zs_X7_refuse zc_X7_refuse zn_X7 zd_X7_refuse (Nat.le_of_ble_eq_true rfl) dX7_setProcessors_16 (by omega) (by omega) ?_
    exact zr_ireturn hO hE dX7_setProcessors_19 (zpl_i (by first | ((simp only [mP_setProcessors, mF_ref, if_neg (zif_f c11)]) <;> rfl) | contradiction) (by first | ((simp only [mP_setProcessors, mF_ref, if_neg (zif_f c11)]) <;> rfl) | contradiction))
set_option maxRecDepth 100000 in
set_option maxHeartbeats 4000000 in
theorem e_X7_setWay {l : Launch} {G : zGm} {d n o : Nat} {ly : zLy} {τ : zTu} {σ M : zSg} {a b c : Int32} (htr : l.stackTraces = false) (hM : zM ly o) (hd : 2 ≤ d) (hW : zmW M) : zEv l G d 0 0 (yX7_setWay, cX7_setWay, 5, some .int) [.ref o, .int a, .int b, .int c] (fun x => n ≤ x) ly τ (zwr σ o 103 M) (zPl n ly τ (zwr σ o 103 (mP_setWay M a b c).1) (some (.int (mP_setWay M a b c).2))) := by
  refine zEv_of (ls := [some (.ref o), some (.int a), some (.int b), some (.int c), none, none, none, none, none]) htr (by decide) (Nat.le_of_ble_eq_true rfl) rfl (fun X hO hE hN hRm hL hNm => ?_)
  have hO : zOk G X RX7 cX7_setWay 5 := hO
  have hW0 := zmW_0 hW
  refine zr_aload_0 hO dX7_setWay_0 ?_
  refine zr_iconst (v := 0) hO dX7_setWay_1 (by decide) ?_
  refine zg_putfi0 (c := 7) hO (zM_0 hM) (by decide) (by decide) (by decide) zf_X7_120 rfl rfl dX7_setWay_2 ?_
  refine zr_iload_1 hO dX7_setWay_5 ?_
  refine zr_iconst (v := 0) hO dX7_setWay_6 (by decide) ?_
  refine zr_iconst (v := 2) hO dX7_setWay_7 (by decide) ?_
  refine zr_S3 (D := d) hO hRm hL (by omega) (by decide) rfl (e_X7_is (d := d - 1) htr (by omega)) zl_X7_123 zt_X7_is zc_X7_is zn_X7 zd_X7_is (Nat.le_of_ble_eq_true rfl) dX7_setWay_8 (by omega) (by omega) ?_
  refine zV_pc (pc' := 11) rfl ?_
  refine zr_ifb_eq (tgt := 34) hO dX7_setWay_11 (by decide) (fun c11 => ?_) (fun c11 => ?_)
  · refine zr_aload_0 hO dX7_setWay_34 ?_
    refine zr_iconst (v := 1) hO dX7_setWay_35 (by decide) ?_
    refine zr_V1 (D := d) hO hRm hL (by omega) (by decide) (c := 7) (by decide) (zM_0 hM) rfl rfl (e_X7_refuse (d := d - 1) htr hM (by omega)) zl_X7_218 zi_X7_refuse zs_X7_refuse zc_X7_refuse zn_X7 zd_X7_refuse (Nat.le_of_ble_eq_true rfl) dX7_setWay_36 (by omega) (by omega) ?_
    exact zr_ireturn hO hE dX7_setWay_39 (zpl_i (by first | ((simp only [mP_setWay, mF_ref, if_neg (zif_f c11)]) <;> rfl) | contradiction) (by first | ((simp only [mP_setWay, mF_ref, if_neg (zif_f c11)]) <;> rfl) | contradiction))
  · refine zr_iload_2 hO dX7_setWay_14 ?_
    refine zr_iconst (v := 1) hO dX7_setWay_15 (by decide) ?_
    refine zr_bipush (v := 10) hO dX7_setWay_16 (by decide) ?_
    refine zr_S3 (D := d) hO hRm hL (by omega) (by decide) rfl (e_X7_is (d := d - 1) htr (by omega)) zl_X7_123 zt_X7_is zc_X7_is zn_X7 zd_X7_is (Nat.le_of_ble_eq_true rfl) dX7_setWay_18 (by omega) (by omega) ?_
    refine zr_ifb_eq (tgt := 34) hO dX7_setWay_21 (by decide) (fun c21 => ?_) (fun c21 => ?_)
    · refine zr_aload_0 hO dX7_setWay_34 ?_
      refine zr_iconst (v := 1) hO dX7_setWay_35 (by decide) ?_
      refine zr_V1 (D := d) hO hRm hL (by omega) (by decide) (c := 7) (by decide) (zM_0 hM) rfl rfl (e_X7_refuse (d := d - 1) htr hM (by omega)) zl_X7_218 zi_X7_refuse zs_X7_refuse zc_X7_refuse zn_X7 zd_X7_refuse (Nat.le_of_ble_eq_true rfl) dX7_setWay_36 (by omega) (by omega) ?_
      exact zr_ireturn hO hE dX7_setWay_39 (zpl_i (by first | ((simp only [mP_setWay, mF_ref, if_pos c11, if_neg (zif_f c21)]) <;> rfl) | contradiction) (by first | ((simp only [mP_setWay, mF_ref, if_pos c11, if_neg (zif_f c21)]) <;> rfl) | contradiction))
    · refine zr_iload_3 hO dX7_setWay_24 ?_
      refine zr_iconst (v := 0) hO dX7_setWay_25 (by decide) ?_
      refine zr_bipush (v := 50) hO dX7_setWay_26 (by decide) ?_
      refine zr_S3 (D := d) hO hRm hL (by omega) (by decide) rfl (e_X7_is (d := d - 1) htr (by omega)) zl_X7_123 zt_X7_is zc_X7_is zn_X7 zd_X7_is (Nat.le_of_ble_eq_true rfl) dX7_setWay_28 (by omega) (by omega) ?_
      refine zr_ifb_ne (tgt := 40) hO dX7_setWay_31 (by decide) (fun c31 => ?_) (fun c31 => ?_)
      · refine zr_aload_0 hO dX7_setWay_40 ?_
        refine zg_getfi0 (c := 7) hO (zM_0 hM) (by decide) (by decide) (by decide) zf_X7_98 rfl dX7_setWay_41 ?_
        refine zr_istore_4 hO dX7_setWay_44 (by decide) rfl ?_
        refine zr_aload_0 hO dX7_setWay_46 ?_
        refine zr_iload_1 hO dX7_setWay_47 ?_
        refine zg_putfi0 (c := 7) hO (zM_0 hM) (by decide) (by decide) (by decide) zf_X7_98 rfl rfl dX7_setWay_48 ?_
        refine zr_aload_0 hO dX7_setWay_51 ?_
        refine zV_pc (pc' := 52) rfl ?_
        refine zr_iload_2 hO dX7_setWay_52 ?_
        refine zg_putfi0 (c := 7) hO (zM_0 hM) (by decide) (by decide) (by decide) zf_X7_7 rfl rfl dX7_setWay_53 ?_
        refine zr_aload_0 hO dX7_setWay_56 ?_
        refine zr_iload_3 hO dX7_setWay_57 ?_
        refine zg_putfi0 (c := 7) hO (zM_0 hM) (by decide) (by decide) (by decide) zf_X7_101 rfl rfl dX7_setWay_58 ?_
        refine zr_iload_4 hO dX7_setWay_61 ?_
        exact zr_ireturn hO hE dX7_setWay_63 (zpl_i (by first | ((simp only [mP_setWay, mF_ref, if_pos c11, if_pos c21, if_pos c31]) <;> rfl) | contradiction) (by first | ((simp only [mP_setWay, mF_ref, if_pos c11, if_pos c21, if_pos c31]) <;> rfl) | contradiction))
      · refine zr_aload_0 hO dX7_setWay_34 ?_
        refine zr_iconst (v := 1) hO dX7_setWay_35 (by decide) ?_
        refine zr_V1 (D := d) hO hRm hL (by omega) (by decide) (c := 7) (by decide) (zM_0 hM) rfl rfl (e_X7_refuse (d := d - 1) htr hM (by omega)) zl_X7_218 zi_X7_refuse zs_X7_refuse zc_X7_refuse zn_X7 zd_X7_refuse (Nat.le_of_ble_eq_true rfl) dX7_setWay_36 (by omega) (by omega) ?_
        exact zr_ireturn hO hE dX7_setWay_39 (zpl_i (by first | ((simp only [mP_setWay, mF_ref, if_pos c11, if_pos c21, if_neg (zif_f c31)]) <;> rfl) | contradiction) (by first | ((simp only [mP_setWay, mF_ref, if_pos c11, if_pos c21, if_neg (zif_f c31)]) <;> rfl) | contradiction))
set_option maxRecDepth 100000 in
set_option maxHeartbeats 4000000 in
theorem e_X7_setQuota {l : Launch} {G : zGm} {d n o : Nat} {ly : zLy} {τ : zTu} {σ M : zSg} {a b : Int32} (htr : l.stackTraces = false) (hM : zM ly o) (hd : 2 ≤ d) (hW : zmW M) : zEv l G d 0 0 (yX7_setQuota, cX7_setQuota, 4, some .int) [.ref o, .int a, .int b] (fun x => n ≤ x) ly τ (zwr σ o 103 M) (zPl n ly τ (zwr σ o 103 (mP_setQuota M a b).1) (some (.int (mP_setQuota M a b).2))) := by
  refine zEv_of (ls := [some (.ref o), some (.int a), some (.int b), none, none, none, none, none, none]) htr (by decide) (Nat.le_of_ble_eq_true rfl) rfl (fun X hO hE hN hRm hL hNm => ?_)
  have hO : zOk G X RX7 cX7_setQuota 4 := hO
  have hW0 := zmW_0 hW
  refine zr_aload_0 hO dX7_setQuota_0 ?_
  refine zr_iconst (v := 0) hO dX7_setQuota_1 (by decide) ?_
  refine zg_putfi0 (c := 7) hO (zM_0 hM) (by decide) (by decide) (by decide) zf_X7_120 rfl rfl dX7_setQuota_2 ?_
  refine zr_iload_1 hO dX7_setQuota_5 ?_
  refine zr_iconst (v := 0) hO dX7_setQuota_6 (by decide) ?_
  refine zr_iconst (v := 3) hO dX7_setQuota_7 (by decide) ?_
  refine zr_S3 (D := d) hO hRm hL (by omega) (by decide) rfl (e_X7_is (d := d - 1) htr (by omega)) zl_X7_123 zt_X7_is zc_X7_is zn_X7 zd_X7_is (Nat.le_of_ble_eq_true rfl) dX7_setQuota_8 (by omega) (by omega) ?_
  refine zV_pc (pc' := 11) rfl ?_
  refine zr_ifb_ne (tgt := 20) hO dX7_setQuota_11 (by decide) (fun c11 => ?_) (fun c11 => ?_)
  · refine zr_iload_2 hO dX7_setQuota_20 ?_
    refine zr_iconst (v := 0) hO dX7_setQuota_21 (by decide) ?_
    refine zr_bipush (v := 50) hO dX7_setQuota_22 (by decide) ?_
    refine zr_S3 (D := d) hO hRm hL (by omega) (by decide) rfl (e_X7_is (d := d - 1) htr (by omega)) zl_X7_123 zt_X7_is zc_X7_is zn_X7 zd_X7_is (Nat.le_of_ble_eq_true rfl) dX7_setQuota_24 (by omega) (by omega) ?_
    refine zr_ifb_ne (tgt := 36) hO dX7_setQuota_27 (by decide) (fun c27 => ?_) (fun c27 => ?_)
    · refine zr_aload_0 hO dX7_setQuota_36 ?_
      refine zr_getfr (c := 7) hO (by decide) (by decide) zf_X7_19 (zM_0 hM) rfl rfl dX7_setQuota_37 ?_
      refine zr_iload_1 hO dX7_setQuota_40 ?_
      refine zg_iald hO (zM_1 hM) (by decide) (by first | assumption | exact zin_task hW0 (by assumption) | exact zin_is (by assumption) (by decide) (by decide) | exact zin_proc hW0 (by assumption)) dX7_setQuota_41 ?_
      refine zr_istore_3 hO dX7_setQuota_42 (by decide) rfl ?_
      refine zr_aload_0 hO dX7_setQuota_43 ?_
      refine zr_getfr (c := 7) hO (by decide) (by decide) zf_X7_19 (zM_0 hM) rfl rfl dX7_setQuota_44 ?_
      refine zV_pc (pc' := 47) rfl ?_
      refine zr_iload_1 hO dX7_setQuota_47 ?_
      refine zr_iload_2 hO dX7_setQuota_48 ?_
      refine zg_iast hO (zM_1 hM) (by decide) (by first | assumption | exact zin_task hW0 (by assumption) | exact zin_is (by assumption) (by decide) (by decide) | exact zin_proc hW0 (by assumption)) dX7_setQuota_49 ?_
      refine zr_iload_3 hO dX7_setQuota_50 ?_
      exact zr_ireturn hO hE dX7_setQuota_51 (zpl_i (by first | ((simp only [mP_setQuota, mF_ref, if_pos c11, if_pos c27]) <;> rfl) | contradiction) (by first | ((simp only [mP_setQuota, mF_ref, if_pos c11, if_pos c27]) <;> rfl) | contradiction))
    · refine zr_aload_0 hO dX7_setQuota_30 ?_
      refine zr_iconst (v := 2) hO dX7_setQuota_31 (by decide) ?_
      refine zr_V1 (D := d) hO hRm hL (by omega) (by decide) (c := 7) (by decide) (zM_0 hM) rfl rfl (e_X7_refuse (d := d - 1) htr hM (by omega)) zl_X7_218 zi_X7_refuse zs_X7_refuse zc_X7_refuse zn_X7 zd_X7_refuse (Nat.le_of_ble_eq_true rfl) dX7_setQuota_32 (by omega) (by omega) ?_
      exact zr_ireturn hO hE dX7_setQuota_35 (zpl_i (by first | ((simp only [mP_setQuota, mF_ref, if_pos c11, if_neg (zif_f c27)]) <;> rfl) | contradiction) (by first | ((simp only [mP_setQuota, mF_ref, if_pos c11, if_neg (zif_f c27)]) <;> rfl) | contradiction))
  · refine zr_aload_0 hO dX7_setQuota_14 ?_
    refine zr_iconst (v := 1) hO dX7_setQuota_15 (by decide) ?_
    refine zr_V1 (D := d) hO hRm hL (by omega) (by decide) (c := 7) (by decide) (zM_0 hM) rfl rfl (e_X7_refuse (d := d - 1) htr hM (by omega)) zl_X7_218 zi_X7_refuse zs_X7_refuse zc_X7_refuse zn_X7 zd_X7_refuse (Nat.le_of_ble_eq_true rfl) dX7_setQuota_16 (by omega) (by omega) ?_
    exact zr_ireturn hO hE dX7_setQuota_19 (zpl_i (by first | ((simp only [mP_setQuota, mF_ref, if_neg (zif_f c11)]) <;> rfl) | contradiction) (by first | ((simp only [mP_setQuota, mF_ref, if_neg (zif_f c11)]) <;> rfl) | contradiction))
set_option maxRecDepth 100000 in
set_option maxHeartbeats 4000000 in
theorem e_X7_setPeriod {l : Launch} {G : zGm} {d n o : Nat} {ly : zLy} {τ : zTu} {σ M : zSg} {a : Int32} (htr : l.stackTraces = false) (hM : zM ly o) (hd : 2 ≤ d) (hW : zmW M) : zEv l G d 0 0 (yX7_setPeriod, cX7_setPeriod, 3, some .int) [.ref o, .int a] (fun x => n ≤ x) ly τ (zwr σ o 103 M) (zPl n ly τ (zwr σ o 103 (mP_setPeriod M a).1) (some (.int (mP_setPeriod M a).2))) := by
  refine zEv_of (ls := [some (.ref o), some (.int a), none, none, none, none, none, none, none]) htr (by decide) (Nat.le_of_ble_eq_true rfl) rfl (fun X hO hE hN hRm hL hNm => ?_)
  have hO : zOk G X RX7 cX7_setPeriod 3 := hO
  have hW0 := zmW_0 hW
  refine zr_aload_0 hO dX7_setPeriod_0 ?_
  refine zr_iconst (v := 0) hO dX7_setPeriod_1 (by decide) ?_
  refine zg_putfi0 (c := 7) hO (zM_0 hM) (by decide) (by decide) (by decide) zf_X7_120 rfl rfl dX7_setPeriod_2 ?_
  refine zr_iload_1 hO dX7_setPeriod_5 ?_
  refine zr_iconst (v := 1) hO dX7_setPeriod_6 (by decide) ?_
  refine zr_bipush (v := 50) hO dX7_setPeriod_7 (by decide) ?_
  refine zr_S3 (D := d) hO hRm hL (by omega) (by decide) rfl (e_X7_is (d := d - 1) htr (by omega)) zl_X7_123 zt_X7_is zc_X7_is zn_X7 zd_X7_is (Nat.le_of_ble_eq_true rfl) dX7_setPeriod_9 (by omega) (by omega) ?_
  refine zV_pc (pc' := 12) rfl ?_
  refine zr_ifb_ne (tgt := 21) hO dX7_setPeriod_12 (by decide) (fun c12 => ?_) (fun c12 => ?_)
  · refine zr_aload_0 hO dX7_setPeriod_21 ?_
    refine zg_getfi0 (c := 7) hO (zM_0 hM) (by decide) (by decide) (by decide) zf_X7_13 rfl dX7_setPeriod_22 ?_
    refine zr_istore_2 hO dX7_setPeriod_25 (by decide) rfl ?_
    refine zr_aload_0 hO dX7_setPeriod_26 ?_
    refine zr_iload_1 hO dX7_setPeriod_27 ?_
    refine zg_putfi0 (c := 7) hO (zM_0 hM) (by decide) (by decide) (by decide) zf_X7_13 rfl rfl dX7_setPeriod_28 ?_
    refine zr_iload_2 hO dX7_setPeriod_31 ?_
    refine zV_pc (pc' := 32) rfl ?_
    exact zr_ireturn hO hE dX7_setPeriod_32 (zpl_i (by first | ((simp only [mP_setPeriod, mF_ref, if_pos c12]) <;> rfl) | contradiction) (by first | ((simp only [mP_setPeriod, mF_ref, if_pos c12]) <;> rfl) | contradiction))
  · refine zr_aload_0 hO dX7_setPeriod_15 ?_
    refine zr_iconst (v := 1) hO dX7_setPeriod_16 (by decide) ?_
    refine zr_V1 (D := d) hO hRm hL (by omega) (by decide) (c := 7) (by decide) (zM_0 hM) rfl rfl (e_X7_refuse (d := d - 1) htr hM (by omega)) zl_X7_218 zi_X7_refuse zs_X7_refuse zc_X7_refuse zn_X7 zd_X7_refuse (Nat.le_of_ble_eq_true rfl) dX7_setPeriod_17 (by omega) (by omega) ?_
    exact zr_ireturn hO hE dX7_setPeriod_20 (zpl_i (by first | ((simp only [mP_setPeriod, mF_ref, if_neg (zif_f c12)]) <;> rfl) | contradiction) (by first | ((simp only [mP_setPeriod, mF_ref, if_neg (zif_f c12)]) <;> rfl) | contradiction))
set_option maxRecDepth 100000 in
set_option maxHeartbeats 4000000 in
theorem e_X7_addTask {l : Launch} {G : zGm} {d n o : Nat} {ly : zLy} {τ : zTu} {σ M : zSg} {a b c : Int32} (htr : l.stackTraces = false) (hM : zM ly o) (hd : 2 ≤ d) (hW : zmW M) : zEv l G d 0 0 (yX7_addTask, cX7_addTask, 4, some .int) [.ref o, .int a, .int b, .int c] (fun x => n ≤ x) ly τ (zwr σ o 103 M) (zPl n ly τ (zwr σ o 103 (mP_addTask M a b c).1) (some (.int (mP_addTask M a b c).2))) := by
  refine zEv_of (ls := [some (.ref o), some (.int a), some (.int b), some (.int c), none, none, none, none, none]) htr (by decide) (Nat.le_of_ble_eq_true rfl) rfl (fun X hO hE hN hRm hL hNm => ?_)
  have hO : zOk G X RX7 cX7_addTask 4 := hO
  have hW0 := zmW_0 hW
  refine zr_aload_0 hO dX7_addTask_0 ?_
  refine zr_iconst (v := 0) hO dX7_addTask_1 (by decide) ?_
  refine zg_putfi0 (c := 7) hO (zM_0 hM) (by decide) (by decide) (by decide) zf_X7_120 rfl rfl dX7_addTask_2 ?_
  refine zr_iload_1 hO dX7_addTask_5 ?_
  refine zr_iconst (v := 0) hO dX7_addTask_6 (by decide) ?_
  refine zr_bipush (v := 7) hO dX7_addTask_7 (by decide) ?_
  refine zr_S3 (D := d) hO hRm hL (by omega) (by decide) rfl (e_X7_is (d := d - 1) htr (by omega)) zl_X7_123 zt_X7_is zc_X7_is zn_X7 zd_X7_is (Nat.le_of_ble_eq_true rfl) dX7_addTask_9 (by omega) (by omega) ?_
  refine zV_pc (pc' := 12) rfl ?_
  refine zr_ifb_eq (tgt := 33) hO dX7_addTask_12 (by decide) (fun c12 => ?_) (fun c12 => ?_)
  · refine zr_aload_0 hO dX7_addTask_33 ?_
    refine zr_iconst (v := 1) hO dX7_addTask_34 (by decide) ?_
    refine zr_V1 (D := d) hO hRm hL (by omega) (by decide) (c := 7) (by decide) (zM_0 hM) rfl rfl (e_X7_refuse (d := d - 1) htr hM (by omega)) zl_X7_218 zi_X7_refuse zs_X7_refuse zc_X7_refuse zn_X7 zd_X7_refuse (Nat.le_of_ble_eq_true rfl) dX7_addTask_35 (by omega) (by omega) ?_
    exact zr_ireturn hO hE dX7_addTask_38 (zpl_i (by first | ((simp only [mP_addTask, mP_added, mF_ref, if_neg (zif_f c12)]) <;> rfl) | contradiction) (by first | ((simp only [mP_addTask, mP_added, mF_ref, if_neg (zif_f c12)]) <;> rfl) | contradiction))
  · refine zr_iload_2 hO dX7_addTask_15 ?_
    refine zr_iconst (v := 0) hO dX7_addTask_16 (by decide) ?_
    refine zr_iconst (v := 3) hO dX7_addTask_17 (by decide) ?_
    refine zr_S3 (D := d) hO hRm hL (by omega) (by decide) rfl (e_X7_is (d := d - 1) htr (by omega)) zl_X7_123 zt_X7_is zc_X7_is zn_X7 zd_X7_is (Nat.le_of_ble_eq_true rfl) dX7_addTask_18 (by omega) (by omega) ?_
    refine zr_ifb_eq (tgt := 33) hO dX7_addTask_21 (by decide) (fun c21 => ?_) (fun c21 => ?_)
    · refine zr_aload_0 hO dX7_addTask_33 ?_
      refine zr_iconst (v := 1) hO dX7_addTask_34 (by decide) ?_
      refine zr_V1 (D := d) hO hRm hL (by omega) (by decide) (c := 7) (by decide) (zM_0 hM) rfl rfl (e_X7_refuse (d := d - 1) htr hM (by omega)) zl_X7_218 zi_X7_refuse zs_X7_refuse zc_X7_refuse zn_X7 zd_X7_refuse (Nat.le_of_ble_eq_true rfl) dX7_addTask_35 (by omega) (by omega) ?_
      exact zr_ireturn hO hE dX7_addTask_38 (zpl_i (by first | ((simp only [mP_addTask, mP_added, mF_ref, if_pos c12, if_neg (zif_f c21)]) <;> rfl) | contradiction) (by first | ((simp only [mP_addTask, mP_added, mF_ref, if_pos c12, if_neg (zif_f c21)]) <;> rfl) | contradiction))
    · refine zr_iload_3 hO dX7_addTask_24 ?_
      refine zr_iconst (v := 1) hO dX7_addTask_25 (by decide) ?_
      refine zr_iconst (v := 5) hO dX7_addTask_26 (by decide) ?_
      refine zr_S3 (D := d) hO hRm hL (by omega) (by decide) rfl (e_X7_is (d := d - 1) htr (by omega)) zl_X7_123 zt_X7_is zc_X7_is zn_X7 zd_X7_is (Nat.le_of_ble_eq_true rfl) dX7_addTask_27 (by omega) (by omega) ?_
      refine zr_ifb_ne (tgt := 39) hO dX7_addTask_30 (by decide) (fun c30 => ?_) (fun c30 => ?_)
      · refine zr_aload_0 hO dX7_addTask_39 ?_
        refine zg_getfi0 (c := 7) hO (zM_0 hM) (by decide) (by decide) (by decide) zf_X7_110 rfl dX7_addTask_40 ?_
        refine zr_bipush (v := 16) hO dX7_addTask_43 (by decide) ?_
        refine zr_icmp_ne (tgt := 54) hO dX7_addTask_45 (by decide) (fun c45 => ?_) (fun c45 => ?_)
        · have hts : vp_in ((zup M 0 0 0) 0 15) 16 := zin_ts hW0 c45
          refine zr_aload_0 hO dX7_addTask_54 ?_
          refine zr_getfr (c := 7) hO (by decide) (by decide) zf_X7_26 (zM_0 hM) rfl rfl dX7_addTask_55 ?_
          refine zr_aload_0 hO dX7_addTask_58 ?_
          refine zg_getfi0 (c := 7) hO (zM_0 hM) (by decide) (by decide) (by decide) zf_X7_110 rfl dX7_addTask_59 ?_
          refine zr_iload_1 hO dX7_addTask_62 ?_
          refine zg_iast hO (zM_3 hM) (by decide) (by exact hts) dX7_addTask_63 ?_
          refine zr_aload_0 hO dX7_addTask_64 ?_
          refine zV_pc (pc' := 65) rfl ?_
          refine zr_getfr (c := 7) hO (by decide) (by decide) zf_X7_29 (zM_0 hM) rfl rfl dX7_addTask_65 ?_
          refine zr_aload_0 hO dX7_addTask_68 ?_
          refine zg_getfi0 (c := 7) hO (zM_0 hM) (by decide) (by decide) (by decide) zf_X7_110 rfl dX7_addTask_69 ?_
          refine zr_iload_2 hO dX7_addTask_72 ?_
          refine zg_iast hO (zM_4 hM) (by decide) (by exact hts) dX7_addTask_73 ?_
          refine zr_aload_0 hO dX7_addTask_74 ?_
          refine zr_getfr (c := 7) hO (by decide) (by decide) zf_X7_32 (zM_0 hM) rfl rfl dX7_addTask_75 ?_
          refine zV_pc (pc' := 78) rfl ?_
          refine zr_aload_0 hO dX7_addTask_78 ?_
          refine zg_getfi0 (c := 7) hO (zM_0 hM) (by decide) (by decide) (by decide) zf_X7_110 rfl dX7_addTask_79 ?_
          refine zr_iload_3 hO dX7_addTask_82 ?_
          refine zg_iast hO (zM_5 hM) (by decide) (by exact hts) dX7_addTask_83 ?_
          refine zr_aload_0 hO dX7_addTask_84 ?_
          refine zr_getfr (c := 7) hO (by decide) (by decide) zf_X7_58 (zM_0 hM) rfl rfl dX7_addTask_85 ?_
          refine zr_aload_0 hO dX7_addTask_88 ?_
          refine zV_pc (pc' := 89) rfl ?_
          refine zg_getfi0 (c := 7) hO (zM_0 hM) (by decide) (by decide) (by decide) zf_X7_110 rfl dX7_addTask_89 ?_
          refine zr_iconst (v := (-1)) hO dX7_addTask_92 (by decide) ?_
          refine zg_iast hO (zM_45 hM) (by decide) (by exact hts) dX7_addTask_93 ?_
          refine zr_aload_0 hO dX7_addTask_94 ?_
          refine zr_getfr (c := 7) hO (by decide) (by decide) zf_X7_76 (zM_0 hM) rfl rfl dX7_addTask_95 ?_
          refine zr_aload_0 hO dX7_addTask_98 ?_
          refine zg_getfi0 (c := 7) hO (zM_0 hM) (by decide) (by decide) (by decide) zf_X7_110 rfl dX7_addTask_99 ?_
          refine zV_pc (pc' := 102) rfl ?_
          refine zr_aaldIx hO (zM_51 hM) (by exact hts) dX7_addTask_102 (fun hx102_0 => ?_)
          refine zr_iconst (v := 3) hO dX7_addTask_103 (by decide) ?_
          refine zr_iconst (v := (-1)) hO dX7_addTask_104 (by decide) ?_
          refine zg_iast hO (zM_cnt hM hx102_0) (by have := hx102_0; omega) (zin_i ⟨by decide, by decide⟩) dX7_addTask_105 ?_
          refine zr_aload_0 hO dX7_addTask_106 ?_
          refine zr_getfr (c := 7) hO (by decide) (by decide) zf_X7_76 (zM_0 hM) rfl rfl dX7_addTask_107 ?_
          refine zr_aload_0 hO dX7_addTask_110 ?_
          refine zV_pc (pc' := 111) rfl ?_
          refine zg_getfi0 (c := 7) hO (zM_0 hM) (by decide) (by decide) (by decide) zf_X7_110 rfl dX7_addTask_111 ?_
          refine zr_aaldIx hO (zM_51 hM) (by rw [zup_nf _ (by omega)]; exact hts) dX7_addTask_114 (fun hx114_1 => ?_)
          refine zr_iconst (v := 4) hO dX7_addTask_115 (by decide) ?_
          refine zr_iconst (v := (-1)) hO dX7_addTask_116 (by decide) ?_
          refine zg_iast hO (zM_cnt hM hx114_1) (by have := hx114_1; omega) (zin_i ⟨by decide, by decide⟩) dX7_addTask_117 ?_
          refine zr_aload_0 hO dX7_addTask_118 ?_
          refine zr_dup hO dX7_addTask_119 rfl ?_
          refine zV_pc (pc' := 120) rfl ?_
          refine zg_getfi0 (c := 7) hO (zM_0 hM) (by decide) (by decide) (by decide) zf_X7_110 rfl dX7_addTask_120 ?_
          refine zr_iconst (v := 1) hO dX7_addTask_123 (by decide) ?_
          refine zr_iadd hO dX7_addTask_124 ?_
          refine zg_putfi0 (c := 7) hO (zM_0 hM) (by decide) (by decide) (by decide) zf_X7_110 rfl rfl dX7_addTask_125 ?_
          refine zr_aload_0 hO dX7_addTask_128 ?_
          refine zg_getfi0 (c := 7) hO (zM_0 hM) (by decide) (by decide) (by decide) zf_X7_110 rfl dX7_addTask_129 ?_
          refine zr_iconst (v := 1) hO dX7_addTask_132 (by decide) ?_
          refine zV_pc (pc' := 133) rfl ?_
          refine zr_isub hO dX7_addTask_133 ?_
          exact zr_ireturn hO hE dX7_addTask_134 (zpl_i (by first | ((simp only [mP_addTask, mP_added, mF_ref, if_pos c12, if_pos c21, if_pos c30, if_neg c45]) <;> rfl) | contradiction) (by first | ((simp only [mP_addTask, mP_added, mF_ref, if_pos c12, if_pos c21, if_pos c30, if_neg c45]) <;> rfl) | contradiction))
        · refine zr_aload_0 hO dX7_addTask_48 ?_
          refine zr_iconst (v := 2) hO dX7_addTask_49 (by decide) ?_
          refine zr_V1 (D := d) hO hRm hL (by omega) (by decide) (c := 7) (by decide) (zM_0 hM) rfl rfl (e_X7_refuse (d := d - 1) htr hM (by omega)) zl_X7_218 zi_X7_refuse zs_X7_refuse zc_X7_refuse zn_X7 zd_X7_refuse (Nat.le_of_ble_eq_true rfl) dX7_addTask_50 (by omega) (by omega) ?_
          exact zr_ireturn hO hE dX7_addTask_53 (zpl_i (by first | ((simp only [mP_addTask, mP_added, mF_ref, if_pos c12, if_pos c21, if_pos c30, if_pos c45]) <;> rfl) | contradiction) (by first | ((simp only [mP_addTask, mP_added, mF_ref, if_pos c12, if_pos c21, if_pos c30, if_pos c45]) <;> rfl) | contradiction))
      · refine zr_aload_0 hO dX7_addTask_33 ?_
        refine zr_iconst (v := 1) hO dX7_addTask_34 (by decide) ?_
        refine zr_V1 (D := d) hO hRm hL (by omega) (by decide) (c := 7) (by decide) (zM_0 hM) rfl rfl (e_X7_refuse (d := d - 1) htr hM (by omega)) zl_X7_218 zi_X7_refuse zs_X7_refuse zc_X7_refuse zn_X7 zd_X7_refuse (Nat.le_of_ble_eq_true rfl) dX7_addTask_35 (by omega) (by omega) ?_
        exact zr_ireturn hO hE dX7_addTask_38 (zpl_i (by first | ((simp only [mP_addTask, mP_added, mF_ref, if_pos c12, if_pos c21, if_neg (zif_f c30)]) <;> rfl) | contradiction) (by first | ((simp only [mP_addTask, mP_added, mF_ref, if_pos c12, if_pos c21, if_neg (zif_f c30)]) <;> rfl) | contradiction))
set_option maxRecDepth 100000 in
set_option maxHeartbeats 4000000 in
theorem e_X7_addStep {l : Launch} {G : zGm} {d n o : Nat} {ly : zLy} {τ : zTu} {σ M : zSg} {t a b : Int32} (htr : l.stackTraces = false) (hM : zM ly o) (hd : 2 ≤ d) (hW : zmW M) : zEv l G d 0 0 (yX7_addStep, cX7_addStep, 4, some .int) [.ref o, .int t, .int a, .int b] (fun x => n ≤ x) ly τ (zwr σ o 103 M) (zPl n ly τ (zwr σ o 103 (mP_addStep M t a b).1) (some (.int (mP_addStep M t a b).2))) := by
  refine zEv_of (ls := [some (.ref o), some (.int t), some (.int a), some (.int b), none, none, none, none, none]) htr (by decide) (Nat.le_of_ble_eq_true rfl) rfl (fun X hO hE hN hRm hL hNm => ?_)
  have hO : zOk G X RX7 cX7_addStep 4 := hO
  have hW0 := zmW_0 hW
  refine zr_aload_0 hO dX7_addStep_0 ?_
  refine zr_iconst (v := 0) hO dX7_addStep_1 (by decide) ?_
  refine zg_putfi0 (c := 7) hO (zM_0 hM) (by decide) (by decide) (by decide) zf_X7_120 rfl rfl dX7_addStep_2 ?_
  refine zr_aload_0 hO dX7_addStep_5 ?_
  refine zr_iload_1 hO dX7_addStep_6 ?_
  refine zr_V1 (D := d) hO hRm hL (by omega) (by decide) (c := 7) (by decide) (zM_0 hM) rfl rfl (e_X7_isTask (d := d - 1) htr hM (by omega)) zl_X7_221 zi_X7_isTask zs_X7_isTask zc_X7_isTask zn_X7 zd_X7_isTask (Nat.le_of_ble_eq_true rfl) dX7_addStep_7 (by omega) (by omega) ?_
  refine zr_ifb_ne (tgt := 19) hO dX7_addStep_10 (by decide) (fun c10 => ?_) (fun c10 => ?_)
  · refine zr_iload_2 hO dX7_addStep_19 ?_
    refine zr_iconst (v := 0) hO dX7_addStep_20 (by decide) ?_
    refine zr_bipush (v := 6) hO dX7_addStep_21 (by decide) ?_
    refine zr_S3 (D := d) hO hRm hL (by omega) (by decide) rfl (e_X7_is (d := d - 1) htr (by omega)) zl_X7_123 zt_X7_is zc_X7_is zn_X7 zd_X7_is (Nat.le_of_ble_eq_true rfl) dX7_addStep_23 (by omega) (by omega) ?_
    refine zr_ifb_eq (tgt := 37) hO dX7_addStep_26 (by decide) (fun c26 => ?_) (fun c26 => ?_)
    · refine zr_aload_0 hO dX7_addStep_37 ?_
      refine zr_iconst (v := 2) hO dX7_addStep_38 (by decide) ?_
      refine zr_V1 (D := d) hO hRm hL (by omega) (by decide) (c := 7) (by decide) (zM_0 hM) rfl rfl (e_X7_refuse (d := d - 1) htr hM (by omega)) zl_X7_218 zi_X7_refuse zs_X7_refuse zc_X7_refuse zn_X7 zd_X7_refuse (Nat.le_of_ble_eq_true rfl) dX7_addStep_39 (by omega) (by omega) ?_
      exact zr_ireturn hO hE dX7_addStep_42 (zpl_i (by first | ((simp only [mP_addStep, mP_stepped, mF_ref, if_pos c10, if_neg (zif_f c26)]) <;> rfl) | contradiction) (by first | ((simp only [mP_addStep, mP_stepped, mF_ref, if_pos c10, if_neg (zif_f c26)]) <;> rfl) | contradiction))
    · refine zr_iload_2 hO dX7_addStep_29 ?_
      refine zr_iload_3 hO dX7_addStep_30 ?_
      refine zr_S2 (D := d) hO hRm hL (by omega) (by decide) rfl (e_X7_isNumber (d := d - 1) htr (by omega)) zl_X7_225 zt_X7_isNumber zc_X7_isNumber zn_X7 zd_X7_isNumber (Nat.le_of_ble_eq_true rfl) dX7_addStep_31 (by omega) (by omega) ?_
      refine zr_ifb_ne (tgt := 43) hO dX7_addStep_34 (by decide) (fun c34 => ?_) (fun c34 => ?_)
      · have ht16 : vp_in t 16 := zin_task hW0 c10
        refine zr_aload_0 hO dX7_addStep_43 ?_
        refine zr_getfr (c := 7) hO (by decide) (by decide) zf_X7_46 (zM_0 hM) rfl rfl dX7_addStep_44 ?_
        refine zr_iload_1 hO dX7_addStep_47 ?_
        refine zg_iald hO (zM_41 hM) (by decide) (by exact ht16) dX7_addStep_48 ?_
        refine zr_if_ne (tgt := 63) hO dX7_addStep_49 (by decide) (fun c49 => ?_) (fun c49 => ?_)
        · refine zr_aload_0 hO dX7_addStep_63 ?_
          refine zr_iconst (v := 3) hO dX7_addStep_64 (by decide) ?_
          refine zr_V1 (D := d) hO hRm hL (by omega) (by decide) (c := 7) (by decide) (zM_0 hM) rfl rfl (e_X7_refuse (d := d - 1) htr hM (by omega)) zl_X7_218 zi_X7_refuse zs_X7_refuse zc_X7_refuse zn_X7 zd_X7_refuse (Nat.le_of_ble_eq_true rfl) dX7_addStep_65 (by omega) (by omega) ?_
          exact zr_ireturn hO hE dX7_addStep_68 (zpl_i (by first | ((simp only [mP_addStep, mP_stepped, mF_ref, if_pos c10, if_pos c26, if_pos c34, if_neg c49]) <;> rfl) | contradiction) (by first | ((simp only [mP_addStep, mP_stepped, mF_ref, if_pos c10, if_pos c26, if_pos c34, if_neg c49]) <;> rfl) | contradiction))
        · refine zr_aload_0 hO dX7_addStep_52 ?_
          refine zr_getfr (c := 7) hO (by decide) (by decide) zf_X7_35 (zM_0 hM) rfl rfl dX7_addStep_53 ?_
          refine zr_iload_1 hO dX7_addStep_56 ?_
          refine zg_iald hO (zM_6 hM) (by decide) (by exact ht16) dX7_addStep_57 ?_
          refine zr_bipush (v := 16) hO dX7_addStep_58 (by decide) ?_
          refine zr_icmp_ne (tgt := 69) hO dX7_addStep_60 (by decide) (fun c60 => ?_) (fun c60 => ?_)
          · have hmn : vp_in ((zup M 0 0 0) 6 (ix t)) 16 := zin_mn hW0 c60
            refine zr_aload_0 hO dX7_addStep_69 ?_
            refine zr_getfr (c := 7) hO (by decide) (by decide) zf_X7_40 (zM_0 hM) rfl rfl dX7_addStep_70 ?_
            refine zr_iload_1 hO dX7_addStep_73 ?_
            refine zr_aaldIx hO (zM_7 hM) (by exact ht16) dX7_addStep_74 (fun hx74_0 => ?_)
            refine zr_aload_0 hO dX7_addStep_75 ?_
            refine zr_getfr (c := 7) hO (by decide) (by decide) zf_X7_35 (zM_0 hM) rfl rfl dX7_addStep_76 ?_
            refine zr_iload_1 hO dX7_addStep_79 ?_
            refine zV_pc (pc' := 80) rfl ?_
            refine zg_iald hO (zM_6 hM) (by decide) (by exact ht16) dX7_addStep_80 ?_
            refine zr_iload_2 hO dX7_addStep_81 ?_
            refine zg_iast hO (zM_code hM hx74_0) (by have := hx74_0; omega) (by exact hmn) dX7_addStep_82 ?_
            refine zr_aload_0 hO dX7_addStep_83 ?_
            refine zr_getfr (c := 7) hO (by decide) (by decide) zf_X7_43 (zM_0 hM) rfl rfl dX7_addStep_84 ?_
            refine zr_iload_1 hO dX7_addStep_87 ?_
            refine zr_aaldIx hO (zM_24 hM) (by exact ht16) dX7_addStep_88 (fun hx88_1 => ?_)
            refine zV_pc (pc' := 89) rfl ?_
            refine zr_aload_0 hO dX7_addStep_89 ?_
            refine zr_getfr (c := 7) hO (by decide) (by decide) zf_X7_35 (zM_0 hM) rfl rfl dX7_addStep_90 ?_
            refine zr_iload_1 hO dX7_addStep_93 ?_
            refine zg_iald hO (zM_6 hM) (by decide) (by exact ht16) dX7_addStep_94 ?_
            refine zr_iload_3 hO dX7_addStep_95 ?_
            refine zg_iast hO (zM_num hM hx88_1) (by have := hx88_1; omega) (by rw [zup_nf _ (by omega)]; exact hmn) dX7_addStep_96 ?_
            refine zr_aload_0 hO dX7_addStep_97 ?_
            refine zV_pc (pc' := 98) rfl ?_
            refine zr_getfr (c := 7) hO (by decide) (by decide) zf_X7_35 (zM_0 hM) rfl rfl dX7_addStep_98 ?_
            refine zr_iload_1 hO dX7_addStep_101 ?_
            refine zr_dup2 hO dX7_addStep_102 rfl rfl ?_
            refine zg_iald hO (zM_6 hM) (by decide) (by exact ht16) dX7_addStep_103 ?_
            refine zr_iconst (v := 1) hO dX7_addStep_104 (by decide) ?_
            refine zr_iadd hO dX7_addStep_105 ?_
            refine zg_iast hO (zM_6 hM) (by decide) (by first | assumption | exact zin_task hW0 (by assumption) | exact zin_is (by assumption) (by decide) (by decide) | exact zin_proc hW0 (by assumption)) dX7_addStep_106 ?_
            refine zV_pc (pc' := 107) rfl ?_
            refine zr_aload_0 hO dX7_addStep_107 ?_
            refine zr_getfr (c := 7) hO (by decide) (by decide) zf_X7_35 (zM_0 hM) rfl rfl dX7_addStep_108 ?_
            refine zr_iload_1 hO dX7_addStep_111 ?_
            refine zg_iald hO (zM_6 hM) (by decide) (by exact ht16) dX7_addStep_112 ?_
            exact zr_ireturn hO hE dX7_addStep_113 (zpl_i (by first | ((simp only [mP_addStep, mP_stepped, mF_ref, if_pos c10, if_pos c26, if_pos c34, if_pos c49, if_neg c60]) <;> rfl) | contradiction) (by first | ((simp only [mP_addStep, mP_stepped, mF_ref, if_pos c10, if_pos c26, if_pos c34, if_pos c49, if_neg c60]) <;> rfl) | contradiction))
          · refine zr_aload_0 hO dX7_addStep_63 ?_
            refine zr_iconst (v := 3) hO dX7_addStep_64 (by decide) ?_
            refine zr_V1 (D := d) hO hRm hL (by omega) (by decide) (c := 7) (by decide) (zM_0 hM) rfl rfl (e_X7_refuse (d := d - 1) htr hM (by omega)) zl_X7_218 zi_X7_refuse zs_X7_refuse zc_X7_refuse zn_X7 zd_X7_refuse (Nat.le_of_ble_eq_true rfl) dX7_addStep_65 (by omega) (by omega) ?_
            exact zr_ireturn hO hE dX7_addStep_68 (zpl_i (by first | ((simp only [mP_addStep, mP_stepped, mF_ref, if_pos c10, if_pos c26, if_pos c34, if_pos c49, if_pos c60]) <;> rfl) | contradiction) (by first | ((simp only [mP_addStep, mP_stepped, mF_ref, if_pos c10, if_pos c26, if_pos c34, if_pos c49, if_pos c60]) <;> rfl) | contradiction))
      · refine zr_aload_0 hO dX7_addStep_37 ?_
        refine zr_iconst (v := 2) hO dX7_addStep_38 (by decide) ?_
        refine zr_V1 (D := d) hO hRm hL (by omega) (by decide) (c := 7) (by decide) (zM_0 hM) rfl rfl (e_X7_refuse (d := d - 1) htr hM (by omega)) zl_X7_218 zi_X7_refuse zs_X7_refuse zc_X7_refuse zn_X7 zd_X7_refuse (Nat.le_of_ble_eq_true rfl) dX7_addStep_39 (by omega) (by omega) ?_
        exact zr_ireturn hO hE dX7_addStep_42 (zpl_i (by first | ((simp only [mP_addStep, mP_stepped, mF_ref, if_pos c10, if_pos c26, if_neg (zif_f c34)]) <;> rfl) | contradiction) (by first | ((simp only [mP_addStep, mP_stepped, mF_ref, if_pos c10, if_pos c26, if_neg (zif_f c34)]) <;> rfl) | contradiction))
  · refine zr_aload_0 hO dX7_addStep_13 ?_
    refine zr_iconst (v := 1) hO dX7_addStep_14 (by decide) ?_
    refine zr_V1 (D := d) hO hRm hL (by omega) (by decide) (c := 7) (by decide) (zM_0 hM) rfl rfl (e_X7_refuse (d := d - 1) htr hM (by omega)) zl_X7_218 zi_X7_refuse zs_X7_refuse zc_X7_refuse zn_X7 zd_X7_refuse (Nat.le_of_ble_eq_true rfl) dX7_addStep_15 (by omega) (by omega) ?_
    exact zr_ireturn hO hE dX7_addStep_18 (zpl_i (by first | ((simp only [mP_addStep, mP_stepped, mF_ref, if_neg (zif_f c10)]) <;> rfl) | contradiction) (by first | ((simp only [mP_addStep, mP_stepped, mF_ref, if_neg (zif_f c10)]) <;> rfl) | contradiction))
set_option maxRecDepth 100000 in
set_option maxHeartbeats 4000000 in
theorem e_X7_start {l : Launch} {G : zGm} {d n o : Nat} {ly : zLy} {τ : zTu} {σ M : zSg} {t : Int32} (htr : l.stackTraces = false) (hM : zM ly o) (hd : 2 ≤ d) (hW : zmW M) : zEv l G d 0 0 (yX7_start, cX7_start, 2, some .int) [.ref o, .int t] (fun x => n ≤ x) ly τ (zwr σ o 103 M) (zPl n ly τ (zwr σ o 103 (mP_start M t).1) (some (.int (mP_start M t).2))) := by
  refine zEv_of (ls := [some (.ref o), some (.int t), none, none, none, none, none, none, none]) htr (by decide) (Nat.le_of_ble_eq_true rfl) rfl (fun X hO hE hN hRm hL hNm => ?_)
  have hO : zOk G X RX7 cX7_start 2 := hO
  have hW0 := zmW_0 hW
  refine zr_aload_0 hO dX7_start_0 ?_
  refine zr_iconst (v := 0) hO dX7_start_1 (by decide) ?_
  refine zg_putfi0 (c := 7) hO (zM_0 hM) (by decide) (by decide) (by decide) zf_X7_120 rfl rfl dX7_start_2 ?_
  refine zr_aload_0 hO dX7_start_5 ?_
  refine zr_iload_1 hO dX7_start_6 ?_
  refine zr_V1 (D := d) hO hRm hL (by omega) (by decide) (c := 7) (by decide) (zM_0 hM) rfl rfl (e_X7_isTask (d := d - 1) htr hM (by omega)) zl_X7_221 zi_X7_isTask zs_X7_isTask zc_X7_isTask zn_X7 zd_X7_isTask (Nat.le_of_ble_eq_true rfl) dX7_start_7 (by omega) (by omega) ?_
  refine zr_ifb_ne (tgt := 19) hO dX7_start_10 (by decide) (fun c10 => ?_) (fun c10 => ?_)
  · have ht16 : vp_in t 16 := zin_task hW0 c10
    refine zr_aload_0 hO dX7_start_19 ?_
    refine zr_getfr (c := 7) hO (by decide) (by decide) zf_X7_46 (zM_0 hM) rfl rfl dX7_start_20 ?_
    refine zr_iload_1 hO dX7_start_23 ?_
    refine zg_iald hO (zM_41 hM) (by decide) (by exact ht16) dX7_start_24 ?_
    refine zr_if_ne (tgt := 55) hO dX7_start_25 (by decide) (fun c25 => ?_) (fun c25 => ?_)
    · refine zr_aload_0 hO dX7_start_55 ?_
      refine zr_iconst (v := 2) hO dX7_start_56 (by decide) ?_
      refine zr_V1 (D := d) hO hRm hL (by omega) (by decide) (c := 7) (by decide) (zM_0 hM) rfl rfl (e_X7_refuse (d := d - 1) htr hM (by omega)) zl_X7_218 zi_X7_refuse zs_X7_refuse zc_X7_refuse zn_X7 zd_X7_refuse (Nat.le_of_ble_eq_true rfl) dX7_start_57 (by omega) (by omega) ?_
      exact zr_ireturn hO hE dX7_start_60 (zpl_i (by first | ((simp only [mP_start, mP_started, mF_ref, if_pos c10, if_neg c25]) <;> rfl) | contradiction) (by first | ((simp only [mP_start, mP_started, mF_ref, if_pos c10, if_neg c25]) <;> rfl) | contradiction))
    · refine zr_aload_0 hO dX7_start_28 ?_
      refine zr_getfr (c := 7) hO (by decide) (by decide) zf_X7_35 (zM_0 hM) rfl rfl dX7_start_29 ?_
      refine zr_iload_1 hO dX7_start_32 ?_
      refine zg_iald hO (zM_6 hM) (by decide) (by exact ht16) dX7_start_33 ?_
      refine zr_if_eq (tgt := 55) hO dX7_start_34 (by decide) (fun c34 => ?_) (fun c34 => ?_)
      · refine zr_aload_0 hO dX7_start_55 ?_
        refine zr_iconst (v := 2) hO dX7_start_56 (by decide) ?_
        refine zr_V1 (D := d) hO hRm hL (by omega) (by decide) (c := 7) (by decide) (zM_0 hM) rfl rfl (e_X7_refuse (d := d - 1) htr hM (by omega)) zl_X7_218 zi_X7_refuse zs_X7_refuse zc_X7_refuse zn_X7 zd_X7_refuse (Nat.le_of_ble_eq_true rfl) dX7_start_57 (by omega) (by omega) ?_
        exact zr_ireturn hO hE dX7_start_60 (zpl_i (by first | ((simp only [mP_start, mP_started, mF_ref, if_pos c10, if_pos c25, if_pos c34]) <;> rfl) | contradiction) (by first | ((simp only [mP_start, mP_started, mF_ref, if_pos c10, if_pos c25, if_pos c34]) <;> rfl) | contradiction))
      · refine zr_aload_0 hO dX7_start_37 ?_
        refine zr_getfr (c := 7) hO (by decide) (by decide) zf_X7_40 (zM_0 hM) rfl rfl dX7_start_38 ?_
        refine zr_iload_1 hO dX7_start_41 ?_
        refine zr_aaldIx hO (zM_7 hM) (by exact ht16) dX7_start_42 (fun hx42_0 => ?_)
        have hml : vp_in ((zup M 0 0 0) 6 (ix t) - 1) 16 := zin_ml hW0 c34
        refine zr_aload_0 hO dX7_start_43 ?_
        refine zr_getfr (c := 7) hO (by decide) (by decide) zf_X7_35 (zM_0 hM) rfl rfl dX7_start_44 ?_
        refine zr_iload_1 hO dX7_start_47 ?_
        refine zV_pc (pc' := 48) rfl ?_
        refine zg_iald hO (zM_6 hM) (by decide) (by exact ht16) dX7_start_48 ?_
        refine zr_iconst (v := 1) hO dX7_start_49 (by decide) ?_
        refine zr_isub hO dX7_start_50 ?_
        refine zg_iald hO (zM_code hM hx42_0) (by have := hx42_0; omega) (by exact hml) dX7_start_51 ?_
        refine zr_if_eq (tgt := 61) hO dX7_start_52 (by decide) (fun c52 => ?_) (fun c52 => ?_)
        · refine zr_aload_0 hO dX7_start_61 ?_
          refine zr_getfr (c := 7) hO (by decide) (by decide) zf_X7_64 (zM_0 hM) rfl rfl dX7_start_62 ?_
          refine zr_iload_1 hO dX7_start_65 ?_
          refine zr_iconst (v := 0) hO dX7_start_66 (by decide) ?_
          refine zr_aload_0 hO dX7_start_67 ?_
          refine zr_iload_1 hO dX7_start_68 ?_
          refine zr_V1 (D := d) hO hRm hL (by omega) (by decide) (c := 7) (by decide) (zM_0 hM) rfl rfl (e_X7_leastTime (d := d - 1) htr hM (by omega) hW0) zl_X7_143 zi_X7_leastTime zs_X7_leastTime zc_X7_leastTime zn_X7 zd_X7_leastTime (Nat.le_of_ble_eq_true rfl) dX7_start_69 (by omega) (by omega) ?_
          refine zV_pc (pc' := 72) rfl ?_
          refine zr_mmax hO (by omega) hRm zl_X7_140 dX7_start_72 (Nat.le_of_ble_eq_true rfl) ?_
          refine zg_iast hO (zM_47 hM) (by decide) (by exact ht16) dX7_start_75 ?_
          refine zr_aload_0 hO dX7_start_76 ?_
          refine zr_iload_1 hO dX7_start_77 ?_
          refine zr_V1 (D := d) hO hRm hL (by omega) (by decide) (c := 7) (by decide) (zM_0 hM) rfl rfl (e_X7_ready (d := d - 1) htr hM (by omega) (by first | assumption | exact zin_task hW0 (by assumption) | exact zin_is (by assumption) (by decide) (by decide) | exact zin_proc hW0 (by assumption))) zl_X7_146 zi_X7_ready zs_X7_ready zc_X7_ready zn_X7 zd_X7_ready (Nat.le_of_ble_eq_true rfl) dX7_start_78 (by omega) (by omega) ?_
          refine zr_aload_0 hO dX7_start_81 ?_
          refine zr_getfr (c := 7) hO (by decide) (by decide) zf_X7_58 (zM_0 hM) rfl rfl dX7_start_82 ?_
          refine zV_pc (pc' := 85) rfl ?_
          refine zr_iload_1 hO dX7_start_85 ?_
          refine zg_iald hO (zM_45 hM) (by decide) (by exact ht16) dX7_start_86 ?_
          exact zr_ireturn hO hE dX7_start_87 (zpl_i (by first | ((simp only [mP_start, mP_started, mF_ref, if_pos c10, if_pos c25, if_neg c34, if_pos c52]) <;> rfl) | contradiction) (by first | ((simp only [mP_start, mP_started, mF_ref, if_pos c10, if_pos c25, if_neg c34, if_pos c52]) <;> rfl) | contradiction))
        · refine zr_aload_0 hO dX7_start_55 ?_
          refine zr_iconst (v := 2) hO dX7_start_56 (by decide) ?_
          refine zr_V1 (D := d) hO hRm hL (by omega) (by decide) (c := 7) (by decide) (zM_0 hM) rfl rfl (e_X7_refuse (d := d - 1) htr hM (by omega)) zl_X7_218 zi_X7_refuse zs_X7_refuse zc_X7_refuse zn_X7 zd_X7_refuse (Nat.le_of_ble_eq_true rfl) dX7_start_57 (by omega) (by omega) ?_
          exact zr_ireturn hO hE dX7_start_60 (zpl_i (by first | ((simp only [mP_start, mP_started, mF_ref, if_pos c10, if_pos c25, if_neg c34, if_neg c52]) <;> rfl) | contradiction) (by first | ((simp only [mP_start, mP_started, mF_ref, if_pos c10, if_pos c25, if_neg c34, if_neg c52]) <;> rfl) | contradiction))
  · refine zr_aload_0 hO dX7_start_13 ?_
    refine zr_iconst (v := 1) hO dX7_start_14 (by decide) ?_
    refine zr_V1 (D := d) hO hRm hL (by omega) (by decide) (c := 7) (by decide) (zM_0 hM) rfl rfl (e_X7_refuse (d := d - 1) htr hM (by omega)) zl_X7_218 zi_X7_refuse zs_X7_refuse zc_X7_refuse zn_X7 zd_X7_refuse (Nat.le_of_ble_eq_true rfl) dX7_start_15 (by omega) (by omega) ?_
    exact zr_ireturn hO hE dX7_start_18 (zpl_i (by first | ((simp only [mP_start, mP_started, mF_ref, if_neg (zif_f c10)]) <;> rfl) | contradiction) (by first | ((simp only [mP_start, mP_started, mF_ref, if_neg (zif_f c10)]) <;> rfl) | contradiction))
set_option maxRecDepth 100000 in
set_option maxHeartbeats 4000000 in
theorem e_X7_setRank {l : Launch} {G : zGm} {d n o : Nat} {ly : zLy} {τ : zTu} {σ M : zSg} {t r : Int32} (htr : l.stackTraces = false) (hM : zM ly o) (hd : 2 ≤ d) (hW : zmW M) : zEv l G d 0 0 (yX7_setRank, cX7_setRank, 4, some .int) [.ref o, .int t, .int r] (fun x => n ≤ x) ly τ (zwr σ o 103 M) (zPl n ly τ (zwr σ o 103 (mP_setRank M t r).1) (some (.int (mP_setRank M t r).2))) := by
  refine zEv_of (ls := [some (.ref o), some (.int t), some (.int r), none, none, none, none, none, none]) htr (by decide) (Nat.le_of_ble_eq_true rfl) rfl (fun X hO hE hN hRm hL hNm => ?_)
  have hO : zOk G X RX7 cX7_setRank 4 := hO
  have hW0 := zmW_0 hW
  refine zr_aload_0 hO dX7_setRank_0 ?_
  refine zr_iconst (v := 0) hO dX7_setRank_1 (by decide) ?_
  refine zg_putfi0 (c := 7) hO (zM_0 hM) (by decide) (by decide) (by decide) zf_X7_120 rfl rfl dX7_setRank_2 ?_
  refine zr_aload_0 hO dX7_setRank_5 ?_
  refine zr_iload_1 hO dX7_setRank_6 ?_
  refine zr_V1 (D := d) hO hRm hL (by omega) (by decide) (c := 7) (by decide) (zM_0 hM) rfl rfl (e_X7_isTask (d := d - 1) htr hM (by omega)) zl_X7_221 zi_X7_isTask zs_X7_isTask zc_X7_isTask zn_X7 zd_X7_isTask (Nat.le_of_ble_eq_true rfl) dX7_setRank_7 (by omega) (by omega) ?_
  refine zr_ifb_ne (tgt := 19) hO dX7_setRank_10 (by decide) (fun c10 => ?_) (fun c10 => ?_)
  · refine zr_iload_2 hO dX7_setRank_19 ?_
    refine zr_iconst (v := 0) hO dX7_setRank_20 (by decide) ?_
    refine zr_bipush (v := 7) hO dX7_setRank_21 (by decide) ?_
    refine zr_S3 (D := d) hO hRm hL (by omega) (by decide) rfl (e_X7_is (d := d - 1) htr (by omega)) zl_X7_123 zt_X7_is zc_X7_is zn_X7 zd_X7_is (Nat.le_of_ble_eq_true rfl) dX7_setRank_23 (by omega) (by omega) ?_
    refine zr_ifb_ne (tgt := 35) hO dX7_setRank_26 (by decide) (fun c26 => ?_) (fun c26 => ?_)
    · refine zr_aload_0 hO dX7_setRank_35 ?_
      refine zr_getfr (c := 7) hO (by decide) (by decide) zf_X7_26 (zM_0 hM) rfl rfl dX7_setRank_36 ?_
      refine zr_iload_1 hO dX7_setRank_39 ?_
      refine zg_iald hO (zM_3 hM) (by decide) (by first | assumption | exact zin_task hW0 (by assumption) | exact zin_is (by assumption) (by decide) (by decide) | exact zin_proc hW0 (by assumption)) dX7_setRank_40 ?_
      refine zr_istore_3 hO dX7_setRank_41 (by decide) rfl ?_
      refine zr_aload_0 hO dX7_setRank_42 ?_
      refine zr_getfr (c := 7) hO (by decide) (by decide) zf_X7_26 (zM_0 hM) rfl rfl dX7_setRank_43 ?_
      refine zV_pc (pc' := 46) rfl ?_
      refine zr_iload_1 hO dX7_setRank_46 ?_
      refine zr_iload_2 hO dX7_setRank_47 ?_
      refine zg_iast hO (zM_3 hM) (by decide) (by first | assumption | exact zin_task hW0 (by assumption) | exact zin_is (by assumption) (by decide) (by decide) | exact zin_proc hW0 (by assumption)) dX7_setRank_48 ?_
      refine zr_iload_3 hO dX7_setRank_49 ?_
      exact zr_ireturn hO hE dX7_setRank_50 (zpl_i (by first | ((simp only [mP_setRank, mF_ref, if_pos c10, if_pos c26]) <;> rfl) | contradiction) (by first | ((simp only [mP_setRank, mF_ref, if_pos c10, if_pos c26]) <;> rfl) | contradiction))
    · refine zr_aload_0 hO dX7_setRank_29 ?_
      refine zr_iconst (v := 2) hO dX7_setRank_30 (by decide) ?_
      refine zr_V1 (D := d) hO hRm hL (by omega) (by decide) (c := 7) (by decide) (zM_0 hM) rfl rfl (e_X7_refuse (d := d - 1) htr hM (by omega)) zl_X7_218 zi_X7_refuse zs_X7_refuse zc_X7_refuse zn_X7 zd_X7_refuse (Nat.le_of_ble_eq_true rfl) dX7_setRank_31 (by omega) (by omega) ?_
      exact zr_ireturn hO hE dX7_setRank_34 (zpl_i (by first | ((simp only [mP_setRank, mF_ref, if_pos c10, if_neg (zif_f c26)]) <;> rfl) | contradiction) (by first | ((simp only [mP_setRank, mF_ref, if_pos c10, if_neg (zif_f c26)]) <;> rfl) | contradiction))
  · refine zr_aload_0 hO dX7_setRank_13 ?_
    refine zr_iconst (v := 1) hO dX7_setRank_14 (by decide) ?_
    refine zr_V1 (D := d) hO hRm hL (by omega) (by decide) (c := 7) (by decide) (zM_0 hM) rfl rfl (e_X7_refuse (d := d - 1) htr hM (by omega)) zl_X7_218 zi_X7_refuse zs_X7_refuse zc_X7_refuse zn_X7 zd_X7_refuse (Nat.le_of_ble_eq_true rfl) dX7_setRank_15 (by omega) (by omega) ?_
    exact zr_ireturn hO hE dX7_setRank_18 (zpl_i (by first | ((simp only [mP_setRank, mF_ref, if_neg (zif_f c10)]) <;> rfl) | contradiction) (by first | ((simp only [mP_setRank, mF_ref, if_neg (zif_f c10)]) <;> rfl) | contradiction))
set_option maxRecDepth 100000 in
set_option maxHeartbeats 4000000 in
theorem e_X7_end {l : Launch} {G : zGm} {d n o : Nat} {ly : zLy} {τ : zTu} {σ M : zSg} {t : Int32} (htr : l.stackTraces = false) (hM : zM ly o) (hd : 6 ≤ d) (hW : zmW M) : zEv l G d 0 0 (yX7_end, cX7_end, 3, some .int) [.ref o, .int t] (fun x => n ≤ x) ly τ (zwr σ o 103 M) (zPl n ly τ (zwr σ o 103 (mP_end M t).1) (some (.int (mP_end M t).2))) := by
  refine zEv_of (ls := [some (.ref o), some (.int t), none, none, none, none, none, none, none]) htr (by decide) (Nat.le_of_ble_eq_true rfl) rfl (fun X hO hE hN hRm hL hNm => ?_)
  have hO : zOk G X RX7 cX7_end 3 := hO
  have hW0 := zmW_0 hW
  refine zr_aload_0 hO dX7_end_0 ?_
  refine zr_iconst (v := 0) hO dX7_end_1 (by decide) ?_
  refine zg_putfi0 (c := 7) hO (zM_0 hM) (by decide) (by decide) (by decide) zf_X7_120 rfl rfl dX7_end_2 ?_
  refine zr_aload_0 hO dX7_end_5 ?_
  refine zr_iload_1 hO dX7_end_6 ?_
  refine zr_V1 (D := d) hO hRm hL (by omega) (by decide) (c := 7) (by decide) (zM_0 hM) rfl rfl (e_X7_isTask (d := d - 1) htr hM (by omega)) zl_X7_221 zi_X7_isTask zs_X7_isTask zc_X7_isTask zn_X7 zd_X7_isTask (Nat.le_of_ble_eq_true rfl) dX7_end_7 (by omega) (by omega) ?_
  refine zr_ifb_ne (tgt := 19) hO dX7_end_10 (by decide) (fun c10 => ?_) (fun c10 => ?_)
  · refine zr_aload_0 hO dX7_end_19 ?_
    refine zr_getfr (c := 7) hO (by decide) (by decide) zf_X7_46 (zM_0 hM) rfl rfl dX7_end_20 ?_
    refine zr_iload_1 hO dX7_end_23 ?_
    refine zg_iald hO (zM_41 hM) (by decide) (by first | assumption | exact zin_task hW0 (by assumption) | exact zin_is (by assumption) (by decide) (by decide) | exact zin_proc hW0 (by assumption)) dX7_end_24 ?_
    refine zr_bipush (v := 6) hO dX7_end_25 (by decide) ?_
    refine zr_icmp_ne (tgt := 36) hO dX7_end_27 (by decide) (fun c27 => ?_) (fun c27 => ?_)
    · refine zr_aload_0 hO dX7_end_36 ?_
      refine zr_getfr (c := 7) hO (by decide) (by decide) zf_X7_46 (zM_0 hM) rfl rfl dX7_end_37 ?_
      refine zr_iload_1 hO dX7_end_40 ?_
      refine zg_iald hO (zM_41 hM) (by decide) (by first | assumption | exact zin_task hW0 (by assumption) | exact zin_is (by assumption) (by decide) (by decide) | exact zin_proc hW0 (by assumption)) dX7_end_41 ?_
      refine zr_istore_2 hO dX7_end_42 (by decide) rfl ?_
      refine zr_aload_0 hO dX7_end_43 ?_
      refine zr_iload_1 hO dX7_end_44 ?_
      refine zV_pc (pc' := 45) rfl ?_
      refine zr_V1 (D := d) hO hRm hL (by omega) (by decide) (c := 7) (by decide) (zM_0 hM) rfl rfl (e_X7_finish (d := d - 1) htr hM (by omega) hW0 (by first | assumption | exact zin_task hW0 (by assumption) | exact zin_is (by assumption) (by decide) (by decide) | exact zin_proc hW0 (by assumption))) zl_X7_190 zi_X7_finish zs_X7_finish zc_X7_finish zn_X7 zd_X7_finish (Nat.le_of_ble_eq_true rfl) dX7_end_45 (by omega) (by omega) ?_
      refine zr_iload_2 hO dX7_end_48 ?_
      exact zr_ireturn hO hE dX7_end_49 (zpl_i (by first | ((simp only [mP_end, mF_ref, if_pos c10, if_neg c27]) <;> rfl) | contradiction) (by first | ((simp only [mP_end, mF_ref, if_pos c10, if_neg c27]) <;> rfl) | contradiction))
    · refine zr_aload_0 hO dX7_end_30 ?_
      refine zr_iconst (v := 2) hO dX7_end_31 (by decide) ?_
      refine zr_V1 (D := d) hO hRm hL (by omega) (by decide) (c := 7) (by decide) (zM_0 hM) rfl rfl (e_X7_refuse (d := d - 1) htr hM (by omega)) zl_X7_218 zi_X7_refuse zs_X7_refuse zc_X7_refuse zn_X7 zd_X7_refuse (Nat.le_of_ble_eq_true rfl) dX7_end_32 (by omega) (by omega) ?_
      exact zr_ireturn hO hE dX7_end_35 (zpl_i (by first | ((simp only [mP_end, mF_ref, if_pos c10, if_pos c27]) <;> rfl) | contradiction) (by first | ((simp only [mP_end, mF_ref, if_pos c10, if_pos c27]) <;> rfl) | contradiction))
  · refine zr_aload_0 hO dX7_end_13 ?_
    refine zr_iconst (v := 1) hO dX7_end_14 (by decide) ?_
    refine zr_V1 (D := d) hO hRm hL (by omega) (by decide) (c := 7) (by decide) (zM_0 hM) rfl rfl (e_X7_refuse (d := d - 1) htr hM (by omega)) zl_X7_218 zi_X7_refuse zs_X7_refuse zc_X7_refuse zn_X7 zd_X7_refuse (Nat.le_of_ble_eq_true rfl) dX7_end_15 (by omega) (by omega) ?_
    exact zr_ireturn hO hE dX7_end_18 (zpl_i (by first | ((simp only [mP_end, mF_ref, if_neg (zif_f c10)]) <;> rfl) | contradiction) (by first | ((simp only [mP_end, mF_ref, if_neg (zif_f c10)]) <;> rfl) | contradiction))
set_option maxRecDepth 100000 in
set_option maxHeartbeats 4000000 in
theorem e_X7_signal {l : Launch} {G : zGm} {d n o : Nat} {ly : zLy} {τ : zTu} {σ M : zSg} {e : Int32} (htr : l.stackTraces = false) (hM : zM ly o) (hd : 5 ≤ d) (hW : zmW M) : zEv l G d 0 0 (yX7_signal, cX7_signal, 2, some .int) [.ref o, .int e] (fun x => n ≤ x) ly τ (zwr σ o 103 M) (zPl n ly τ (zwr σ o 103 (mP_signal M e).1) (some (.int (mP_signal M e).2))) := by
  refine zEv_of (ls := [some (.ref o), some (.int e), none, none, none, none, none, none, none]) htr (by decide) (Nat.le_of_ble_eq_true rfl) rfl (fun X hO hE hN hRm hL hNm => ?_)
  have hO : zOk G X RX7 cX7_signal 2 := hO
  have hW0 := zmW_0 hW
  refine zr_aload_0 hO dX7_signal_0 ?_
  refine zr_iconst (v := 0) hO dX7_signal_1 (by decide) ?_
  refine zg_putfi0 (c := 7) hO (zM_0 hM) (by decide) (by decide) (by decide) zf_X7_120 rfl rfl dX7_signal_2 ?_
  refine zr_iload_1 hO dX7_signal_5 ?_
  refine zr_iconst (v := 0) hO dX7_signal_6 (by decide) ?_
  refine zr_iconst (v := 5) hO dX7_signal_7 (by decide) ?_
  refine zr_S3 (D := d) hO hRm hL (by omega) (by decide) rfl (e_X7_is (d := d - 1) htr (by omega)) zl_X7_123 zt_X7_is zc_X7_is zn_X7 zd_X7_is (Nat.le_of_ble_eq_true rfl) dX7_signal_8 (by omega) (by omega) ?_
  refine zV_pc (pc' := 11) rfl ?_
  refine zr_ifb_ne (tgt := 20) hO dX7_signal_11 (by decide) (fun c11 => ?_) (fun c11 => ?_)
  · refine zr_aload_0 hO dX7_signal_20 ?_
    refine zr_iload_1 hO dX7_signal_21 ?_
    refine zr_V1 (D := d) hO hRm hL (by omega) (by decide) (c := 7) (by decide) (zM_0 hM) rfl rfl (e_X7_signalNow (d := d - 1) htr hM (by omega) hW0 (by first | assumption | exact zin_task hW0 (by assumption) | exact zin_is (by assumption) (by decide) (by decide) | exact zin_proc hW0 (by assumption))) zl_X7_196 zi_X7_signalNow zs_X7_signalNow zc_X7_signalNow zn_X7 zd_X7_signalNow (Nat.le_of_ble_eq_true rfl) dX7_signal_22 (by omega) (by omega) ?_
    refine zr_aload_0 hO dX7_signal_25 ?_
    refine zr_getfr (c := 7) hO (by decide) (by decide) zf_X7_91 (zM_0 hM) rfl rfl dX7_signal_26 ?_
    refine zr_iload_1 hO dX7_signal_29 ?_
    refine zg_iald hO (zM_102 hM) (by decide) (by first | assumption | exact zin_task hW0 (by assumption) | exact zin_is (by assumption) (by decide) (by decide) | exact zin_proc hW0 (by assumption)) dX7_signal_30 ?_
    refine zV_pc (pc' := 31) rfl ?_
    exact zr_ireturn hO hE dX7_signal_31 (zpl_i (by first | ((simp only [mP_signal, mF_ref, if_pos c11]) <;> rfl) | contradiction) (by first | ((simp only [mP_signal, mF_ref, if_pos c11]) <;> rfl) | contradiction))
  · refine zr_aload_0 hO dX7_signal_14 ?_
    refine zr_iconst (v := 1) hO dX7_signal_15 (by decide) ?_
    refine zr_V1 (D := d) hO hRm hL (by omega) (by decide) (c := 7) (by decide) (zM_0 hM) rfl rfl (e_X7_refuse (d := d - 1) htr hM (by omega)) zl_X7_218 zi_X7_refuse zs_X7_refuse zc_X7_refuse zn_X7 zd_X7_refuse (Nat.le_of_ble_eq_true rfl) dX7_signal_16 (by omega) (by omega) ?_
    exact zr_ireturn hO hE dX7_signal_19 (zpl_i (by first | ((simp only [mP_signal, mF_ref, if_neg (zif_f c11)]) <;> rfl) | contradiction) (by first | ((simp only [mP_signal, mF_ref, if_neg (zif_f c11)]) <;> rfl) | contradiction))
set_option maxRecDepth 100000 in
set_option maxHeartbeats 4000000 in
theorem e_X7_clock {l : Launch} {G : zGm} {d n o : Nat} {ly : zLy} {τ : zTu} {σ M : zSg}  (htr : l.stackTraces = false) (hM : zM ly o) (hd : 2 ≤ d) (hW : zmW M) : zEv l G d 0 0 (yX7_clock, cX7_clock, 1, some .int) [.ref o] (fun x => n ≤ x) ly τ (zwr σ o 103 M) (zPl n ly τ (zwr σ o 103 (mP_get M 1).1) (some (.int (mP_get M 1).2))) := by
  refine zEv_of (ls := [some (.ref o), none, none, none, none, none, none, none, none]) htr (by decide) (Nat.le_of_ble_eq_true rfl) rfl (fun X hO hE hN hRm hL hNm => ?_)
  have hO : zOk G X RX7 cX7_clock 1 := hO
  have hW0 := zmW_0 hW
  refine zr_aload_0 hO dX7_clock_0 ?_
  refine zr_iconst (v := 0) hO dX7_clock_1 (by decide) ?_
  refine zg_putfi0 (c := 7) hO (zM_0 hM) (by decide) (by decide) (by decide) zf_X7_120 rfl rfl dX7_clock_2 ?_
  refine zr_aload_0 hO dX7_clock_5 ?_
  refine zg_getfi0 (c := 7) hO (zM_0 hM) (by decide) (by decide) (by decide) zf_X7_95 rfl dX7_clock_6 ?_
  exact zr_ireturn hO hE dX7_clock_9 (zpl_i (by first | ((simp only [mP_get, mF_ref]) <;> rfl) | contradiction) (by first | ((simp only [mP_get, mF_ref]) <;> rfl) | contradiction))
set_option maxRecDepth 100000 in
set_option maxHeartbeats 4000000 in
theorem e_X7_tasks {l : Launch} {G : zGm} {d n o : Nat} {ly : zLy} {τ : zTu} {σ M : zSg}  (htr : l.stackTraces = false) (hM : zM ly o) (hd : 2 ≤ d) (hW : zmW M) : zEv l G d 0 0 (yX7_tasks, cX7_tasks, 1, some .int) [.ref o] (fun x => n ≤ x) ly τ (zwr σ o 103 M) (zPl n ly τ (zwr σ o 103 (mP_get M 15).1) (some (.int (mP_get M 15).2))) := by
  refine zEv_of (ls := [some (.ref o), none, none, none, none, none, none, none, none]) htr (by decide) (Nat.le_of_ble_eq_true rfl) rfl (fun X hO hE hN hRm hL hNm => ?_)
  have hO : zOk G X RX7 cX7_tasks 1 := hO
  have hW0 := zmW_0 hW
  refine zr_aload_0 hO dX7_tasks_0 ?_
  refine zr_iconst (v := 0) hO dX7_tasks_1 (by decide) ?_
  refine zg_putfi0 (c := 7) hO (zM_0 hM) (by decide) (by decide) (by decide) zf_X7_120 rfl rfl dX7_tasks_2 ?_
  refine zr_aload_0 hO dX7_tasks_5 ?_
  refine zg_getfi0 (c := 7) hO (zM_0 hM) (by decide) (by decide) (by decide) zf_X7_110 rfl dX7_tasks_6 ?_
  exact zr_ireturn hO hE dX7_tasks_9 (zpl_i (by first | ((simp only [mP_get, mF_ref]) <;> rfl) | contradiction) (by first | ((simp only [mP_get, mF_ref]) <;> rfl) | contradiction))
set_option maxRecDepth 100000 in
set_option maxHeartbeats 4000000 in
theorem e_X7_processors {l : Launch} {G : zGm} {d n o : Nat} {ly : zLy} {τ : zTu} {σ M : zSg}  (htr : l.stackTraces = false) (hM : zM ly o) (hd : 2 ≤ d) (hW : zmW M) : zEv l G d 0 0 (yX7_processors, cX7_processors, 1, some .int) [.ref o] (fun x => n ≤ x) ly τ (zwr σ o 103 M) (zPl n ly τ (zwr σ o 103 (mP_get M 6).1) (some (.int (mP_get M 6).2))) := by
  refine zEv_of (ls := [some (.ref o), none, none, none, none, none, none, none, none]) htr (by decide) (Nat.le_of_ble_eq_true rfl) rfl (fun X hO hE hN hRm hL hNm => ?_)
  have hO : zOk G X RX7 cX7_processors 1 := hO
  have hW0 := zmW_0 hW
  refine zr_aload_0 hO dX7_processors_0 ?_
  refine zr_iconst (v := 0) hO dX7_processors_1 (by decide) ?_
  refine zg_putfi0 (c := 7) hO (zM_0 hM) (by decide) (by decide) (by decide) zf_X7_120 rfl rfl dX7_processors_2 ?_
  refine zr_aload_0 hO dX7_processors_5 ?_
  refine zg_getfi0 (c := 7) hO (zM_0 hM) (by decide) (by decide) (by decide) zf_X7_16 rfl dX7_processors_6 ?_
  exact zr_ireturn hO hE dX7_processors_9 (zpl_i (by first | ((simp only [mP_get, mF_ref]) <;> rfl) | contradiction) (by first | ((simp only [mP_get, mF_ref]) <;> rfl) | contradiction))
set_option maxRecDepth 100000 in
set_option maxHeartbeats 4000000 in
theorem e_X7_switches {l : Launch} {G : zGm} {d n o : Nat} {ly : zLy} {τ : zTu} {σ M : zSg}  (htr : l.stackTraces = false) (hM : zM ly o) (hd : 2 ≤ d) (hW : zmW M) : zEv l G d 0 0 (yX7_switches, cX7_switches, 1, some .int) [.ref o] (fun x => n ≤ x) ly τ (zwr σ o 103 M) (zPl n ly τ (zwr σ o 103 (mP_get M 11).1) (some (.int (mP_get M 11).2))) := by
  refine zEv_of (ls := [some (.ref o), none, none, none, none, none, none, none, none]) htr (by decide) (Nat.le_of_ble_eq_true rfl) rfl (fun X hO hE hN hRm hL hNm => ?_)
  have hO : zOk G X RX7 cX7_switches 1 := hO
  have hW0 := zmW_0 hW
  refine zr_aload_0 hO dX7_switches_0 ?_
  refine zr_iconst (v := 0) hO dX7_switches_1 (by decide) ?_
  refine zg_putfi0 (c := 7) hO (zM_0 hM) (by decide) (by decide) (by decide) zf_X7_120 rfl rfl dX7_switches_2 ?_
  refine zr_aload_0 hO dX7_switches_5 ?_
  refine zg_getfi0 (c := 7) hO (zM_0 hM) (by decide) (by decide) (by decide) zf_X7_180 rfl dX7_switches_6 ?_
  exact zr_ireturn hO hE dX7_switches_9 (zpl_i (by first | ((simp only [mP_get, mF_ref]) <;> rfl) | contradiction) (by first | ((simp only [mP_get, mF_ref]) <;> rfl) | contradiction))
set_option maxRecDepth 100000 in
set_option maxHeartbeats 4000000 in
theorem e_X7_idle {l : Launch} {G : zGm} {d n o : Nat} {ly : zLy} {τ : zTu} {σ M : zSg}  (htr : l.stackTraces = false) (hM : zM ly o) (hd : 2 ≤ d) (hW : zmW M) : zEv l G d 0 0 (yX7_idle, cX7_idle, 1, some .int) [.ref o] (fun x => n ≤ x) ly τ (zwr σ o 103 M) (zPl n ly τ (zwr σ o 103 (mP_get M 12).1) (some (.int (mP_get M 12).2))) := by
  refine zEv_of (ls := [some (.ref o), none, none, none, none, none, none, none, none]) htr (by decide) (Nat.le_of_ble_eq_true rfl) rfl (fun X hO hE hN hRm hL hNm => ?_)
  have hO : zOk G X RX7 cX7_idle 1 := hO
  have hW0 := zmW_0 hW
  refine zr_aload_0 hO dX7_idle_0 ?_
  refine zr_iconst (v := 0) hO dX7_idle_1 (by decide) ?_
  refine zg_putfi0 (c := 7) hO (zM_0 hM) (by decide) (by decide) (by decide) zf_X7_120 rfl rfl dX7_idle_2 ?_
  refine zr_aload_0 hO dX7_idle_5 ?_
  refine zg_getfi0 (c := 7) hO (zM_0 hM) (by decide) (by decide) (by decide) zf_X7_209 rfl dX7_idle_6 ?_
  exact zr_ireturn hO hE dX7_idle_9 (zpl_i (by first | ((simp only [mP_get, mF_ref]) <;> rfl) | contradiction) (by first | ((simp only [mP_get, mF_ref]) <;> rfl) | contradiction))
set_option maxRecDepth 100000 in
set_option maxHeartbeats 4000000 in
theorem e_X7_stateOf {l : Launch} {G : zGm} {d n o : Nat} {ly : zLy} {τ : zTu} {σ M : zSg} {t : Int32} (htr : l.stackTraces = false) (hM : zM ly o) (hd : 2 ≤ d) (hW : zmW M) : zEv l G d 0 0 (yX7_stateOf, cX7_stateOf, 2, some .int) [.ref o, .int t] (fun x => n ≤ x) ly τ (zwr σ o 103 M) (zPl n ly τ (zwr σ o 103 (mP_of M 41 t).1) (some (.int (mP_of M 41 t).2))) := by
  refine zEv_of (ls := [some (.ref o), some (.int t), none, none, none, none, none, none, none]) htr (by decide) (Nat.le_of_ble_eq_true rfl) rfl (fun X hO hE hN hRm hL hNm => ?_)
  have hO : zOk G X RX7 cX7_stateOf 2 := hO
  have hW0 := zmW_0 hW
  refine zr_aload_0 hO dX7_stateOf_0 ?_
  refine zr_iconst (v := 0) hO dX7_stateOf_1 (by decide) ?_
  refine zg_putfi0 (c := 7) hO (zM_0 hM) (by decide) (by decide) (by decide) zf_X7_120 rfl rfl dX7_stateOf_2 ?_
  refine zr_aload_0 hO dX7_stateOf_5 ?_
  refine zr_iload_1 hO dX7_stateOf_6 ?_
  refine zr_V1 (D := d) hO hRm hL (by omega) (by decide) (c := 7) (by decide) (zM_0 hM) rfl rfl (e_X7_isTask (d := d - 1) htr hM (by omega)) zl_X7_221 zi_X7_isTask zs_X7_isTask zc_X7_isTask zn_X7 zd_X7_isTask (Nat.le_of_ble_eq_true rfl) dX7_stateOf_7 (by omega) (by omega) ?_
  refine zr_ifb_eq (tgt := 22) hO dX7_stateOf_10 (by decide) (fun c10 => ?_) (fun c10 => ?_)
  · refine zr_aload_0 hO dX7_stateOf_22 ?_
    refine zr_iconst (v := 1) hO dX7_stateOf_23 (by decide) ?_
    refine zr_V1 (D := d) hO hRm hL (by omega) (by decide) (c := 7) (by decide) (zM_0 hM) rfl rfl (e_X7_refuse (d := d - 1) htr hM (by omega)) zl_X7_218 zi_X7_refuse zs_X7_refuse zc_X7_refuse zn_X7 zd_X7_refuse (Nat.le_of_ble_eq_true rfl) dX7_stateOf_24 (by omega) (by omega) ?_
    exact zr_ireturn hO hE dX7_stateOf_27 (zpl_i (by first | ((simp only [mP_of, mF_ref, if_neg (zif_f c10)]) <;> rfl) | contradiction) (by first | ((simp only [mP_of, mF_ref, if_neg (zif_f c10)]) <;> rfl) | contradiction))
  · refine zr_aload_0 hO dX7_stateOf_13 ?_
    refine zr_getfr (c := 7) hO (by decide) (by decide) zf_X7_46 (zM_0 hM) rfl rfl dX7_stateOf_14 ?_
    refine zr_iload_1 hO dX7_stateOf_17 ?_
    refine zg_iald hO (zM_41 hM) (by decide) (by first | assumption | exact zin_task hW0 (by assumption) | exact zin_is (by assumption) (by decide) (by decide) | exact zin_proc hW0 (by assumption)) dX7_stateOf_18 ?_
    refine zr_goto (tgt := 27) hO dX7_stateOf_19 (by decide) ?_
    exact zr_ireturn hO hE dX7_stateOf_27 (zpl_i (by first | ((simp only [mP_of, mF_ref, if_pos c10]) <;> rfl) | contradiction) (by first | ((simp only [mP_of, mF_ref, if_pos c10]) <;> rfl) | contradiction))
set_option maxRecDepth 100000 in
set_option maxHeartbeats 4000000 in
theorem e_X7_stepOf {l : Launch} {G : zGm} {d n o : Nat} {ly : zLy} {τ : zTu} {σ M : zSg} {t : Int32} (htr : l.stackTraces = false) (hM : zM ly o) (hd : 2 ≤ d) (hW : zmW M) : zEv l G d 0 0 (yX7_stepOf, cX7_stepOf, 2, some .int) [.ref o, .int t] (fun x => n ≤ x) ly τ (zwr σ o 103 M) (zPl n ly τ (zwr σ o 103 (mP_of M 42 t).1) (some (.int (mP_of M 42 t).2))) := by
  refine zEv_of (ls := [some (.ref o), some (.int t), none, none, none, none, none, none, none]) htr (by decide) (Nat.le_of_ble_eq_true rfl) rfl (fun X hO hE hN hRm hL hNm => ?_)
  have hO : zOk G X RX7 cX7_stepOf 2 := hO
  have hW0 := zmW_0 hW
  refine zr_aload_0 hO dX7_stepOf_0 ?_
  refine zr_iconst (v := 0) hO dX7_stepOf_1 (by decide) ?_
  refine zg_putfi0 (c := 7) hO (zM_0 hM) (by decide) (by decide) (by decide) zf_X7_120 rfl rfl dX7_stepOf_2 ?_
  refine zr_aload_0 hO dX7_stepOf_5 ?_
  refine zr_iload_1 hO dX7_stepOf_6 ?_
  refine zr_V1 (D := d) hO hRm hL (by omega) (by decide) (c := 7) (by decide) (zM_0 hM) rfl rfl (e_X7_isTask (d := d - 1) htr hM (by omega)) zl_X7_221 zi_X7_isTask zs_X7_isTask zc_X7_isTask zn_X7 zd_X7_isTask (Nat.le_of_ble_eq_true rfl) dX7_stepOf_7 (by omega) (by omega) ?_
  refine zr_ifb_eq (tgt := 22) hO dX7_stepOf_10 (by decide) (fun c10 => ?_) (fun c10 => ?_)
  · refine zr_aload_0 hO dX7_stepOf_22 ?_
    refine zr_iconst (v := 1) hO dX7_stepOf_23 (by decide) ?_
    refine zr_V1 (D := d) hO hRm hL (by omega) (by decide) (c := 7) (by decide) (zM_0 hM) rfl rfl (e_X7_refuse (d := d - 1) htr hM (by omega)) zl_X7_218 zi_X7_refuse zs_X7_refuse zc_X7_refuse zn_X7 zd_X7_refuse (Nat.le_of_ble_eq_true rfl) dX7_stepOf_24 (by omega) (by omega) ?_
    exact zr_ireturn hO hE dX7_stepOf_27 (zpl_i (by first | ((simp only [mP_of, mF_ref, if_neg (zif_f c10)]) <;> rfl) | contradiction) (by first | ((simp only [mP_of, mF_ref, if_neg (zif_f c10)]) <;> rfl) | contradiction))
  · refine zr_aload_0 hO dX7_stepOf_13 ?_
    refine zr_getfr (c := 7) hO (by decide) (by decide) zf_X7_49 (zM_0 hM) rfl rfl dX7_stepOf_14 ?_
    refine zr_iload_1 hO dX7_stepOf_17 ?_
    refine zg_iald hO (zM_42 hM) (by decide) (by first | assumption | exact zin_task hW0 (by assumption) | exact zin_is (by assumption) (by decide) (by decide) | exact zin_proc hW0 (by assumption)) dX7_stepOf_18 ?_
    refine zr_goto (tgt := 27) hO dX7_stepOf_19 (by decide) ?_
    exact zr_ireturn hO hE dX7_stepOf_27 (zpl_i (by first | ((simp only [mP_of, mF_ref, if_pos c10]) <;> rfl) | contradiction) (by first | ((simp only [mP_of, mF_ref, if_pos c10]) <;> rfl) | contradiction))
set_option maxRecDepth 100000 in
set_option maxHeartbeats 4000000 in
theorem e_X7_roundsOf {l : Launch} {G : zGm} {d n o : Nat} {ly : zLy} {τ : zTu} {σ M : zSg} {t : Int32} (htr : l.stackTraces = false) (hM : zM ly o) (hd : 2 ≤ d) (hW : zmW M) : zEv l G d 0 0 (yX7_roundsOf, cX7_roundsOf, 2, some .int) [.ref o, .int t] (fun x => n ≤ x) ly τ (zwr σ o 103 M) (zPl n ly τ (zwr σ o 103 (mP_of M 43 t).1) (some (.int (mP_of M 43 t).2))) := by
  refine zEv_of (ls := [some (.ref o), some (.int t), none, none, none, none, none, none, none]) htr (by decide) (Nat.le_of_ble_eq_true rfl) rfl (fun X hO hE hN hRm hL hNm => ?_)
  have hO : zOk G X RX7 cX7_roundsOf 2 := hO
  have hW0 := zmW_0 hW
  refine zr_aload_0 hO dX7_roundsOf_0 ?_
  refine zr_iconst (v := 0) hO dX7_roundsOf_1 (by decide) ?_
  refine zg_putfi0 (c := 7) hO (zM_0 hM) (by decide) (by decide) (by decide) zf_X7_120 rfl rfl dX7_roundsOf_2 ?_
  refine zr_aload_0 hO dX7_roundsOf_5 ?_
  refine zr_iload_1 hO dX7_roundsOf_6 ?_
  refine zr_V1 (D := d) hO hRm hL (by omega) (by decide) (c := 7) (by decide) (zM_0 hM) rfl rfl (e_X7_isTask (d := d - 1) htr hM (by omega)) zl_X7_221 zi_X7_isTask zs_X7_isTask zc_X7_isTask zn_X7 zd_X7_isTask (Nat.le_of_ble_eq_true rfl) dX7_roundsOf_7 (by omega) (by omega) ?_
  refine zr_ifb_eq (tgt := 22) hO dX7_roundsOf_10 (by decide) (fun c10 => ?_) (fun c10 => ?_)
  · refine zr_aload_0 hO dX7_roundsOf_22 ?_
    refine zr_iconst (v := 1) hO dX7_roundsOf_23 (by decide) ?_
    refine zr_V1 (D := d) hO hRm hL (by omega) (by decide) (c := 7) (by decide) (zM_0 hM) rfl rfl (e_X7_refuse (d := d - 1) htr hM (by omega)) zl_X7_218 zi_X7_refuse zs_X7_refuse zc_X7_refuse zn_X7 zd_X7_refuse (Nat.le_of_ble_eq_true rfl) dX7_roundsOf_24 (by omega) (by omega) ?_
    exact zr_ireturn hO hE dX7_roundsOf_27 (zpl_i (by first | ((simp only [mP_of, mF_ref, if_neg (zif_f c10)]) <;> rfl) | contradiction) (by first | ((simp only [mP_of, mF_ref, if_neg (zif_f c10)]) <;> rfl) | contradiction))
  · refine zr_aload_0 hO dX7_roundsOf_13 ?_
    refine zr_getfr (c := 7) hO (by decide) (by decide) zf_X7_52 (zM_0 hM) rfl rfl dX7_roundsOf_14 ?_
    refine zr_iload_1 hO dX7_roundsOf_17 ?_
    refine zg_iald hO (zM_43 hM) (by decide) (by first | assumption | exact zin_task hW0 (by assumption) | exact zin_is (by assumption) (by decide) (by decide) | exact zin_proc hW0 (by assumption)) dX7_roundsOf_18 ?_
    refine zr_goto (tgt := 27) hO dX7_roundsOf_19 (by decide) ?_
    exact zr_ireturn hO hE dX7_roundsOf_27 (zpl_i (by first | ((simp only [mP_of, mF_ref, if_pos c10]) <;> rfl) | contradiction) (by first | ((simp only [mP_of, mF_ref, if_pos c10]) <;> rfl) | contradiction))
set_option maxRecDepth 100000 in
set_option maxHeartbeats 4000000 in
theorem e_X7_standOf {l : Launch} {G : zGm} {d n o : Nat} {ly : zLy} {τ : zTu} {σ M : zSg} {t : Int32} (htr : l.stackTraces = false) (hM : zM ly o) (hd : 2 ≤ d) (hW : zmW M) : zEv l G d 0 0 (yX7_standOf, cX7_standOf, 2, some .int) [.ref o, .int t] (fun x => n ≤ x) ly τ (zwr σ o 103 M) (zPl n ly τ (zwr σ o 103 (mP_of M 45 t).1) (some (.int (mP_of M 45 t).2))) := by
  refine zEv_of (ls := [some (.ref o), some (.int t), none, none, none, none, none, none, none]) htr (by decide) (Nat.le_of_ble_eq_true rfl) rfl (fun X hO hE hN hRm hL hNm => ?_)
  have hO : zOk G X RX7 cX7_standOf 2 := hO
  have hW0 := zmW_0 hW
  refine zr_aload_0 hO dX7_standOf_0 ?_
  refine zr_iconst (v := 0) hO dX7_standOf_1 (by decide) ?_
  refine zg_putfi0 (c := 7) hO (zM_0 hM) (by decide) (by decide) (by decide) zf_X7_120 rfl rfl dX7_standOf_2 ?_
  refine zr_aload_0 hO dX7_standOf_5 ?_
  refine zr_iload_1 hO dX7_standOf_6 ?_
  refine zr_V1 (D := d) hO hRm hL (by omega) (by decide) (c := 7) (by decide) (zM_0 hM) rfl rfl (e_X7_isTask (d := d - 1) htr hM (by omega)) zl_X7_221 zi_X7_isTask zs_X7_isTask zc_X7_isTask zn_X7 zd_X7_isTask (Nat.le_of_ble_eq_true rfl) dX7_standOf_7 (by omega) (by omega) ?_
  refine zr_ifb_eq (tgt := 22) hO dX7_standOf_10 (by decide) (fun c10 => ?_) (fun c10 => ?_)
  · refine zr_aload_0 hO dX7_standOf_22 ?_
    refine zr_iconst (v := 1) hO dX7_standOf_23 (by decide) ?_
    refine zr_V1 (D := d) hO hRm hL (by omega) (by decide) (c := 7) (by decide) (zM_0 hM) rfl rfl (e_X7_refuse (d := d - 1) htr hM (by omega)) zl_X7_218 zi_X7_refuse zs_X7_refuse zc_X7_refuse zn_X7 zd_X7_refuse (Nat.le_of_ble_eq_true rfl) dX7_standOf_24 (by omega) (by omega) ?_
    exact zr_ireturn hO hE dX7_standOf_27 (zpl_i (by first | ((simp only [mP_of, mF_ref, if_neg (zif_f c10)]) <;> rfl) | contradiction) (by first | ((simp only [mP_of, mF_ref, if_neg (zif_f c10)]) <;> rfl) | contradiction))
  · refine zr_aload_0 hO dX7_standOf_13 ?_
    refine zr_getfr (c := 7) hO (by decide) (by decide) zf_X7_58 (zM_0 hM) rfl rfl dX7_standOf_14 ?_
    refine zr_iload_1 hO dX7_standOf_17 ?_
    refine zg_iald hO (zM_45 hM) (by decide) (by first | assumption | exact zin_task hW0 (by assumption) | exact zin_is (by assumption) (by decide) (by decide) | exact zin_proc hW0 (by assumption)) dX7_standOf_18 ?_
    refine zr_goto (tgt := 27) hO dX7_standOf_19 (by decide) ?_
    exact zr_ireturn hO hE dX7_standOf_27 (zpl_i (by first | ((simp only [mP_of, mF_ref, if_pos c10]) <;> rfl) | contradiction) (by first | ((simp only [mP_of, mF_ref, if_pos c10]) <;> rfl) | contradiction))
set_option maxRecDepth 100000 in
set_option maxHeartbeats 4000000 in
theorem e_X7_levelOf {l : Launch} {G : zGm} {d n o : Nat} {ly : zLy} {τ : zTu} {σ M : zSg} {t : Int32} (htr : l.stackTraces = false) (hM : zM ly o) (hd : 2 ≤ d) (hW : zmW M) : zEv l G d 0 0 (yX7_levelOf, cX7_levelOf, 2, some .int) [.ref o, .int t] (fun x => n ≤ x) ly τ (zwr σ o 103 M) (zPl n ly τ (zwr σ o 103 (mP_of M 46 t).1) (some (.int (mP_of M 46 t).2))) := by
  refine zEv_of (ls := [some (.ref o), some (.int t), none, none, none, none, none, none, none]) htr (by decide) (Nat.le_of_ble_eq_true rfl) rfl (fun X hO hE hN hRm hL hNm => ?_)
  have hO : zOk G X RX7 cX7_levelOf 2 := hO
  have hW0 := zmW_0 hW
  refine zr_aload_0 hO dX7_levelOf_0 ?_
  refine zr_iconst (v := 0) hO dX7_levelOf_1 (by decide) ?_
  refine zg_putfi0 (c := 7) hO (zM_0 hM) (by decide) (by decide) (by decide) zf_X7_120 rfl rfl dX7_levelOf_2 ?_
  refine zr_aload_0 hO dX7_levelOf_5 ?_
  refine zr_iload_1 hO dX7_levelOf_6 ?_
  refine zr_V1 (D := d) hO hRm hL (by omega) (by decide) (c := 7) (by decide) (zM_0 hM) rfl rfl (e_X7_isTask (d := d - 1) htr hM (by omega)) zl_X7_221 zi_X7_isTask zs_X7_isTask zc_X7_isTask zn_X7 zd_X7_isTask (Nat.le_of_ble_eq_true rfl) dX7_levelOf_7 (by omega) (by omega) ?_
  refine zr_ifb_eq (tgt := 22) hO dX7_levelOf_10 (by decide) (fun c10 => ?_) (fun c10 => ?_)
  · refine zr_aload_0 hO dX7_levelOf_22 ?_
    refine zr_iconst (v := 1) hO dX7_levelOf_23 (by decide) ?_
    refine zr_V1 (D := d) hO hRm hL (by omega) (by decide) (c := 7) (by decide) (zM_0 hM) rfl rfl (e_X7_refuse (d := d - 1) htr hM (by omega)) zl_X7_218 zi_X7_refuse zs_X7_refuse zc_X7_refuse zn_X7 zd_X7_refuse (Nat.le_of_ble_eq_true rfl) dX7_levelOf_24 (by omega) (by omega) ?_
    exact zr_ireturn hO hE dX7_levelOf_27 (zpl_i (by first | ((simp only [mP_of, mF_ref, if_neg (zif_f c10)]) <;> rfl) | contradiction) (by first | ((simp only [mP_of, mF_ref, if_neg (zif_f c10)]) <;> rfl) | contradiction))
  · refine zr_aload_0 hO dX7_levelOf_13 ?_
    refine zr_getfr (c := 7) hO (by decide) (by decide) zf_X7_61 (zM_0 hM) rfl rfl dX7_levelOf_14 ?_
    refine zr_iload_1 hO dX7_levelOf_17 ?_
    refine zg_iald hO (zM_46 hM) (by decide) (by first | assumption | exact zin_task hW0 (by assumption) | exact zin_is (by assumption) (by decide) (by decide) | exact zin_proc hW0 (by assumption)) dX7_levelOf_18 ?_
    refine zr_goto (tgt := 27) hO dX7_levelOf_19 (by decide) ?_
    exact zr_ireturn hO hE dX7_levelOf_27 (zpl_i (by first | ((simp only [mP_of, mF_ref, if_pos c10]) <;> rfl) | contradiction) (by first | ((simp only [mP_of, mF_ref, if_pos c10]) <;> rfl) | contradiction))
set_option maxRecDepth 100000 in
set_option maxHeartbeats 4000000 in
theorem e_X7_keyOf {l : Launch} {G : zGm} {d n o : Nat} {ly : zLy} {τ : zTu} {σ M : zSg} {t : Int32} (htr : l.stackTraces = false) (hM : zM ly o) (hd : 2 ≤ d) (hW : zmW M) : zEv l G d 0 0 (yX7_keyOf, cX7_keyOf, 2, some .int) [.ref o, .int t] (fun x => n ≤ x) ly τ (zwr σ o 103 M) (zPl n ly τ (zwr σ o 103 (mP_keyOf M t).1) (some (.int (mP_keyOf M t).2))) := by
  refine zEv_of (ls := [some (.ref o), some (.int t), none, none, none, none, none, none, none]) htr (by decide) (Nat.le_of_ble_eq_true rfl) rfl (fun X hO hE hN hRm hL hNm => ?_)
  have hO : zOk G X RX7 cX7_keyOf 2 := hO
  have hW0 := zmW_0 hW
  refine zr_aload_0 hO dX7_keyOf_0 ?_
  refine zr_iconst (v := 0) hO dX7_keyOf_1 (by decide) ?_
  refine zg_putfi0 (c := 7) hO (zM_0 hM) (by decide) (by decide) (by decide) zf_X7_120 rfl rfl dX7_keyOf_2 ?_
  refine zr_aload_0 hO dX7_keyOf_5 ?_
  refine zr_iload_1 hO dX7_keyOf_6 ?_
  refine zr_V1 (D := d) hO hRm hL (by omega) (by decide) (c := 7) (by decide) (zM_0 hM) rfl rfl (e_X7_isTask (d := d - 1) htr hM (by omega)) zl_X7_221 zi_X7_isTask zs_X7_isTask zc_X7_isTask zn_X7 zd_X7_isTask (Nat.le_of_ble_eq_true rfl) dX7_keyOf_7 (by omega) (by omega) ?_
  refine zr_ifb_eq (tgt := 21) hO dX7_keyOf_10 (by decide) (fun c10 => ?_) (fun c10 => ?_)
  · refine zr_aload_0 hO dX7_keyOf_21 ?_
    refine zr_iconst (v := 1) hO dX7_keyOf_22 (by decide) ?_
    refine zr_V1 (D := d) hO hRm hL (by omega) (by decide) (c := 7) (by decide) (zM_0 hM) rfl rfl (e_X7_refuse (d := d - 1) htr hM (by omega)) zl_X7_218 zi_X7_refuse zs_X7_refuse zc_X7_refuse zn_X7 zd_X7_refuse (Nat.le_of_ble_eq_true rfl) dX7_keyOf_23 (by omega) (by omega) ?_
    exact zr_ireturn hO hE dX7_keyOf_26 (zpl_i (by first | ((simp only [mP_keyOf, mF_ref, if_neg (zif_f c10)]) <;> rfl) | contradiction) (by first | ((simp only [mP_keyOf, mF_ref, if_neg (zif_f c10)]) <;> rfl) | contradiction))
  · refine zr_aload_0 hO dX7_keyOf_13 ?_
    refine zr_iload_1 hO dX7_keyOf_14 ?_
    refine zr_V1 (D := d) hO hRm hL (by omega) (by decide) (c := 7) (by decide) (zM_0 hM) rfl rfl (e_X7_keyNow (d := d - 1) htr hM (by omega) (by first | assumption | exact zin_task hW0 (by assumption) | exact zin_is (by assumption) (by decide) (by decide) | exact zin_proc hW0 (by assumption))) zl_X7_131 zi_X7_keyNow zs_X7_keyNow zc_X7_keyNow zn_X7 zd_X7_keyNow (Nat.le_of_ble_eq_true rfl) dX7_keyOf_15 (by omega) (by omega) ?_
    refine zr_goto (tgt := 26) hO dX7_keyOf_18 (by decide) ?_
    exact zr_ireturn hO hE dX7_keyOf_26 (zpl_i (by first | ((simp only [mP_keyOf, mF_ref, if_pos c10]) <;> rfl) | contradiction) (by first | ((simp only [mP_keyOf, mF_ref, if_pos c10]) <;> rfl) | contradiction))
set_option maxRecDepth 100000 in
set_option maxHeartbeats 4000000 in
theorem e_X7_lentKey {l : Launch} {G : zGm} {d n o : Nat} {ly : zLy} {τ : zTu} {σ M : zSg} {t : Int32} (htr : l.stackTraces = false) (hM : zM ly o) (hd : 2 ≤ d) (hW : zmW M) : zEv l G d 0 0 (yX7_lentKey, cX7_lentKey, 2, some .int) [.ref o, .int t] (fun x => n ≤ x) ly τ (zwr σ o 103 M) (zPl n ly τ (zwr σ o 103 (mP_lentKey M t).1) (some (.int (mP_lentKey M t).2))) := by
  refine zEv_of (ls := [some (.ref o), some (.int t), none, none, none, none, none, none, none]) htr (by decide) (Nat.le_of_ble_eq_true rfl) rfl (fun X hO hE hN hRm hL hNm => ?_)
  have hO : zOk G X RX7 cX7_lentKey 2 := hO
  have hW0 := zmW_0 hW
  refine zr_aload_0 hO dX7_lentKey_0 ?_
  refine zr_iconst (v := 0) hO dX7_lentKey_1 (by decide) ?_
  refine zg_putfi0 (c := 7) hO (zM_0 hM) (by decide) (by decide) (by decide) zf_X7_120 rfl rfl dX7_lentKey_2 ?_
  refine zr_aload_0 hO dX7_lentKey_5 ?_
  refine zr_iload_1 hO dX7_lentKey_6 ?_
  refine zr_V1 (D := d) hO hRm hL (by omega) (by decide) (c := 7) (by decide) (zM_0 hM) rfl rfl (e_X7_isTask (d := d - 1) htr hM (by omega)) zl_X7_221 zi_X7_isTask zs_X7_isTask zc_X7_isTask zn_X7 zd_X7_isTask (Nat.le_of_ble_eq_true rfl) dX7_lentKey_7 (by omega) (by omega) ?_
  refine zr_ifb_eq (tgt := 21) hO dX7_lentKey_10 (by decide) (fun c10 => ?_) (fun c10 => ?_)
  · refine zr_aload_0 hO dX7_lentKey_21 ?_
    refine zr_iconst (v := 1) hO dX7_lentKey_22 (by decide) ?_
    refine zr_V1 (D := d) hO hRm hL (by omega) (by decide) (c := 7) (by decide) (zM_0 hM) rfl rfl (e_X7_refuse (d := d - 1) htr hM (by omega)) zl_X7_218 zi_X7_refuse zs_X7_refuse zc_X7_refuse zn_X7 zd_X7_refuse (Nat.le_of_ble_eq_true rfl) dX7_lentKey_23 (by omega) (by omega) ?_
    exact zr_ireturn hO hE dX7_lentKey_26 (zpl_i (by first | ((simp only [mP_lentKey, mF_ref, if_neg (zif_f c10)]) <;> rfl) | contradiction) (by first | ((simp only [mP_lentKey, mF_ref, if_neg (zif_f c10)]) <;> rfl) | contradiction))
  · refine zr_aload_0 hO dX7_lentKey_13 ?_
    refine zr_iload_1 hO dX7_lentKey_14 ?_
    refine zr_V1 (D := d) hO hRm hL (by omega) (by decide) (c := 7) (by decide) (zM_0 hM) rfl rfl (e_X7_lentNow (d := d - 1) htr hM (by omega) hW0 (by first | assumption | exact zin_task hW0 (by assumption) | exact zin_is (by assumption) (by decide) (by decide) | exact zin_proc hW0 (by assumption))) zl_X7_150 zi_X7_lentNow zs_X7_lentNow zc_X7_lentNow zn_X7 zd_X7_lentNow (Nat.le_of_ble_eq_true rfl) dX7_lentKey_15 (by omega) (by omega) ?_
    refine zr_goto (tgt := 26) hO dX7_lentKey_18 (by decide) ?_
    exact zr_ireturn hO hE dX7_lentKey_26 (zpl_i (by first | ((simp only [mP_lentKey, mF_ref, if_pos c10]) <;> rfl) | contradiction) (by first | ((simp only [mP_lentKey, mF_ref, if_pos c10]) <;> rfl) | contradiction))
set_option maxRecDepth 100000 in
set_option maxHeartbeats 4000000 in
theorem e_X7_told {l : Launch} {G : zGm} {d n o : Nat} {ly : zLy} {τ : zTu} {σ M : zSg} {t w : Int32} (htr : l.stackTraces = false) (hM : zM ly o) (hd : 2 ≤ d) (hW : zmW M) : zEv l G d 0 0 (yX7_told, cX7_told, 3, some .int) [.ref o, .int t, .int w] (fun x => n ≤ x) ly τ (zwr σ o 103 M) (zPl n ly τ (zwr σ o 103 (mP_told M t w).1) (some (.int (mP_told M t w).2))) := by
  refine zEv_of (ls := [some (.ref o), some (.int t), some (.int w), none, none, none, none, none, none]) htr (by decide) (Nat.le_of_ble_eq_true rfl) rfl (fun X hO hE hN hRm hL hNm => ?_)
  have hO : zOk G X RX7 cX7_told 3 := hO
  have hW0 := zmW_0 hW
  refine zr_aload_0 hO dX7_told_0 ?_
  refine zr_iconst (v := 0) hO dX7_told_1 (by decide) ?_
  refine zg_putfi0 (c := 7) hO (zM_0 hM) (by decide) (by decide) (by decide) zf_X7_120 rfl rfl dX7_told_2 ?_
  refine zr_aload_0 hO dX7_told_5 ?_
  refine zr_iload_1 hO dX7_told_6 ?_
  refine zr_V1 (D := d) hO hRm hL (by omega) (by decide) (c := 7) (by decide) (zM_0 hM) rfl rfl (e_X7_isTask (d := d - 1) htr hM (by omega)) zl_X7_221 zi_X7_isTask zs_X7_isTask zc_X7_isTask zn_X7 zd_X7_isTask (Nat.le_of_ble_eq_true rfl) dX7_told_7 (by omega) (by omega) ?_
  refine zr_ifb_ne (tgt := 19) hO dX7_told_10 (by decide) (fun c10 => ?_) (fun c10 => ?_)
  · refine zr_iload_2 hO dX7_told_19 ?_
    refine zr_iconst (v := 0) hO dX7_told_20 (by decide) ?_
    refine zr_iconst (v := 4) hO dX7_told_21 (by decide) ?_
    refine zr_S3 (D := d) hO hRm hL (by omega) (by decide) rfl (e_X7_is (d := d - 1) htr (by omega)) zl_X7_123 zt_X7_is zc_X7_is zn_X7 zd_X7_is (Nat.le_of_ble_eq_true rfl) dX7_told_22 (by omega) (by omega) ?_
    refine zr_ifb_eq (tgt := 39) hO dX7_told_25 (by decide) (fun c25 => ?_) (fun c25 => ?_)
    · refine zr_aload_0 hO dX7_told_39 ?_
      refine zr_iconst (v := 2) hO dX7_told_40 (by decide) ?_
      refine zr_V1 (D := d) hO hRm hL (by omega) (by decide) (c := 7) (by decide) (zM_0 hM) rfl rfl (e_X7_refuse (d := d - 1) htr hM (by omega)) zl_X7_218 zi_X7_refuse zs_X7_refuse zc_X7_refuse zn_X7 zd_X7_refuse (Nat.le_of_ble_eq_true rfl) dX7_told_41 (by omega) (by omega) ?_
      exact zr_ireturn hO hE dX7_told_44 (zpl_i (by first | ((simp only [mP_told, mF_ref, if_pos c10, if_neg (zif_f c25)]) <;> rfl) | contradiction) (by first | ((simp only [mP_told, mF_ref, if_pos c10, if_neg (zif_f c25)]) <;> rfl) | contradiction))
    · refine zr_aload_0 hO dX7_told_28 ?_
      refine zr_getfr (c := 7) hO (by decide) (by decide) zf_X7_76 (zM_0 hM) rfl rfl dX7_told_29 ?_
      refine zr_iload_1 hO dX7_told_32 ?_
      refine zr_aaldIx hO (zM_51 hM) (by first | assumption | exact zin_task hW0 (by assumption) | exact zin_is (by assumption) (by decide) (by decide) | exact zin_proc hW0 (by assumption)) dX7_told_33 (fun hx33_0 => ?_)
      refine zr_iload_2 hO dX7_told_34 ?_
      refine zg_iald hO (zM_cnt hM hx33_0) (by have := hx33_0; omega) (by first | assumption | exact zin_task hW0 (by assumption) | exact zin_is (by assumption) (by decide) (by decide) | exact zin_proc hW0 (by assumption)) dX7_told_35 ?_
      refine zr_goto (tgt := 44) hO dX7_told_36 (by decide) ?_
      refine zV_pc (pc' := 44) rfl ?_
      exact zr_ireturn hO hE dX7_told_44 (zpl_i (by first | ((simp only [mP_told, mF_ref, if_pos c10, if_pos c25]) <;> rfl) | contradiction) (by first | ((simp only [mP_told, mF_ref, if_pos c10, if_pos c25]) <;> rfl) | contradiction))
  · refine zr_aload_0 hO dX7_told_13 ?_
    refine zr_iconst (v := 1) hO dX7_told_14 (by decide) ?_
    refine zr_V1 (D := d) hO hRm hL (by omega) (by decide) (c := 7) (by decide) (zM_0 hM) rfl rfl (e_X7_refuse (d := d - 1) htr hM (by omega)) zl_X7_218 zi_X7_refuse zs_X7_refuse zc_X7_refuse zn_X7 zd_X7_refuse (Nat.le_of_ble_eq_true rfl) dX7_told_15 (by omega) (by omega) ?_
    exact zr_ireturn hO hE dX7_told_18 (zpl_i (by first | ((simp only [mP_told, mF_ref, if_neg (zif_f c10)]) <;> rfl) | contradiction) (by first | ((simp only [mP_told, mF_ref, if_neg (zif_f c10)]) <;> rfl) | contradiction))
set_option maxRecDepth 100000 in
set_option maxHeartbeats 4000000 in
theorem e_X7_on {l : Launch} {G : zGm} {d n o : Nat} {ly : zLy} {τ : zTu} {σ M : zSg} {p : Int32} (htr : l.stackTraces = false) (hM : zM ly o) (hd : 2 ≤ d) (hW : zmW M) : zEv l G d 0 0 (yX7_on, cX7_on, 2, some .int) [.ref o, .int p] (fun x => n ≤ x) ly τ (zwr σ o 103 M) (zPl n ly τ (zwr σ o 103 (mP_on M p).1) (some (.int (mP_on M p).2))) := by
  refine zEv_of (ls := [some (.ref o), some (.int p), none, none, none, none, none, none, none]) htr (by decide) (Nat.le_of_ble_eq_true rfl) rfl (fun X hO hE hN hRm hL hNm => ?_)
  have hO : zOk G X RX7 cX7_on 2 := hO
  have hW0 := zmW_0 hW
  refine zr_aload_0 hO dX7_on_0 ?_
  refine zr_iconst (v := 0) hO dX7_on_1 (by decide) ?_
  refine zg_putfi0 (c := 7) hO (zM_0 hM) (by decide) (by decide) (by decide) zf_X7_120 rfl rfl dX7_on_2 ?_
  refine zr_aload_0 hO dX7_on_5 ?_
  refine zr_iload_1 hO dX7_on_6 ?_
  refine zr_V1 (D := d) hO hRm hL (by omega) (by decide) (c := 7) (by decide) (zM_0 hM) rfl rfl (e_X7_isProcessor (d := d - 1) htr hM (by omega)) zl_X7_231 zi_X7_isProcessor zs_X7_isProcessor zc_X7_isProcessor zn_X7 zd_X7_isProcessor (Nat.le_of_ble_eq_true rfl) dX7_on_7 (by omega) (by omega) ?_
  refine zr_ifb_eq (tgt := 22) hO dX7_on_10 (by decide) (fun c10 => ?_) (fun c10 => ?_)
  · refine zr_aload_0 hO dX7_on_22 ?_
    refine zr_iconst (v := 1) hO dX7_on_23 (by decide) ?_
    refine zr_V1 (D := d) hO hRm hL (by omega) (by decide) (c := 7) (by decide) (zM_0 hM) rfl rfl (e_X7_refuse (d := d - 1) htr hM (by omega)) zl_X7_218 zi_X7_refuse zs_X7_refuse zc_X7_refuse zn_X7 zd_X7_refuse (Nat.le_of_ble_eq_true rfl) dX7_on_24 (by omega) (by omega) ?_
    exact zr_ireturn hO hE dX7_on_27 (zpl_i (by first | ((simp only [mP_on, mF_ref, if_neg (zif_f c10)]) <;> rfl) | contradiction) (by first | ((simp only [mP_on, mF_ref, if_neg (zif_f c10)]) <;> rfl) | contradiction))
  · refine zr_aload_0 hO dX7_on_13 ?_
    refine zr_getfr (c := 7) hO (by decide) (by decide) zf_X7_79 (zM_0 hM) rfl rfl dX7_on_14 ?_
    refine zr_iload_1 hO dX7_on_17 ?_
    refine zg_iald hO (zM_68 hM) (by decide) (by first | assumption | exact zin_task hW0 (by assumption) | exact zin_is (by assumption) (by decide) (by decide) | exact zin_proc hW0 (by assumption)) dX7_on_18 ?_
    refine zr_goto (tgt := 27) hO dX7_on_19 (by decide) ?_
    exact zr_ireturn hO hE dX7_on_27 (zpl_i (by first | ((simp only [mP_on, mF_ref, if_pos c10]) <;> rfl) | contradiction) (by first | ((simp only [mP_on, mF_ref, if_pos c10]) <;> rfl) | contradiction))
set_option maxRecDepth 100000 in
set_option maxHeartbeats 4000000 in
theorem e_X7_ran {l : Launch} {G : zGm} {d n o : Nat} {ly : zLy} {τ : zTu} {σ M : zSg} {p b : Int32} (htr : l.stackTraces = false) (hM : zM ly o) (hd : 2 ≤ d) (hW : zmW M) : zEv l G d 0 0 (yX7_ran, cX7_ran, 3, some .int) [.ref o, .int p, .int b] (fun x => n ≤ x) ly τ (zwr σ o 103 M) (zPl n ly τ (zwr σ o 103 (mP_ran M p b).1) (some (.int (mP_ran M p b).2))) := by
  refine zEv_of (ls := [some (.ref o), some (.int p), some (.int b), none, none, none, none, none, none]) htr (by decide) (Nat.le_of_ble_eq_true rfl) rfl (fun X hO hE hN hRm hL hNm => ?_)
  have hO : zOk G X RX7 cX7_ran 3 := hO
  have hW0 := zmW_0 hW
  refine zr_aload_0 hO dX7_ran_0 ?_
  refine zr_iconst (v := 0) hO dX7_ran_1 (by decide) ?_
  refine zg_putfi0 (c := 7) hO (zM_0 hM) (by decide) (by decide) (by decide) zf_X7_120 rfl rfl dX7_ran_2 ?_
  refine zr_aload_0 hO dX7_ran_5 ?_
  refine zr_iload_1 hO dX7_ran_6 ?_
  refine zr_V1 (D := d) hO hRm hL (by omega) (by decide) (c := 7) (by decide) (zM_0 hM) rfl rfl (e_X7_isProcessor (d := d - 1) htr hM (by omega)) zl_X7_231 zi_X7_isProcessor zs_X7_isProcessor zc_X7_isProcessor zn_X7 zd_X7_isProcessor (Nat.le_of_ble_eq_true rfl) dX7_ran_7 (by omega) (by omega) ?_
  refine zr_ifb_ne (tgt := 19) hO dX7_ran_10 (by decide) (fun c10 => ?_) (fun c10 => ?_)
  · refine zr_iload_2 hO dX7_ran_19 ?_
    refine zr_iconst (v := 1) hO dX7_ran_20 (by decide) ?_
    refine zr_bipush (v := 30) hO dX7_ran_21 (by decide) ?_
    refine zr_S3 (D := d) hO hRm hL (by omega) (by decide) rfl (e_X7_is (d := d - 1) htr (by omega)) zl_X7_123 zt_X7_is zc_X7_is zn_X7 zd_X7_is (Nat.le_of_ble_eq_true rfl) dX7_ran_23 (by omega) (by omega) ?_
    refine zr_ifb_eq (tgt := 38) hO dX7_ran_26 (by decide) (fun c26 => ?_) (fun c26 => ?_)
    · refine zr_aload_0 hO dX7_ran_38 ?_
      refine zr_iconst (v := 2) hO dX7_ran_39 (by decide) ?_
      refine zr_V1 (D := d) hO hRm hL (by omega) (by decide) (c := 7) (by decide) (zM_0 hM) rfl rfl (e_X7_refuse (d := d - 1) htr hM (by omega)) zl_X7_218 zi_X7_refuse zs_X7_refuse zc_X7_refuse zn_X7 zd_X7_refuse (Nat.le_of_ble_eq_true rfl) dX7_ran_40 (by omega) (by omega) ?_
      exact zr_ireturn hO hE dX7_ran_43 (zpl_i (by first | ((simp only [mP_ran, mF_ref, if_pos c10, if_neg (zif_f c26)]) <;> rfl) | contradiction) (by first | ((simp only [mP_ran, mF_ref, if_pos c10, if_neg (zif_f c26)]) <;> rfl) | contradiction))
    · refine zr_aload_0 hO dX7_ran_29 ?_
      refine zr_iload_1 hO dX7_ran_30 ?_
      refine zr_iload_2 hO dX7_ran_31 ?_
      refine zr_V2 (D := d) hO hRm hL (by omega) (by decide) (c := 7) (by decide) (zM_0 hM) rfl rfl (e_X7_ranNow (d := d - 1) htr hM (by omega) (by first | assumption | exact zin_task hW0 (by assumption) | exact zin_is (by assumption) (by decide) (by decide) | exact zin_proc hW0 (by assumption)) (zin_back (by assumption))) zl_X7_234 zi_X7_ranNow zs_X7_ranNow zc_X7_ranNow zn_X7 zd_X7_ranNow (Nat.le_of_ble_eq_true rfl) dX7_ran_32 (by omega) (by omega) ?_
      refine zr_goto (tgt := 43) hO dX7_ran_35 (by decide) ?_
      exact zr_ireturn hO hE dX7_ran_43 (zpl_i (by first | ((simp only [mP_ran, mF_ref, if_pos c10, if_pos c26]) <;> rfl) | contradiction) (by first | ((simp only [mP_ran, mF_ref, if_pos c10, if_pos c26]) <;> rfl) | contradiction))
  · refine zr_aload_0 hO dX7_ran_13 ?_
    refine zr_iconst (v := 1) hO dX7_ran_14 (by decide) ?_
    refine zr_V1 (D := d) hO hRm hL (by omega) (by decide) (c := 7) (by decide) (zM_0 hM) rfl rfl (e_X7_refuse (d := d - 1) htr hM (by omega)) zl_X7_218 zi_X7_refuse zs_X7_refuse zc_X7_refuse zn_X7 zd_X7_refuse (Nat.le_of_ble_eq_true rfl) dX7_ran_15 (by omega) (by omega) ?_
    exact zr_ireturn hO hE dX7_ran_18 (zpl_i (by first | ((simp only [mP_ran, mF_ref, if_neg (zif_f c10)]) <;> rfl) | contradiction) (by first | ((simp only [mP_ran, mF_ref, if_neg (zif_f c10)]) <;> rfl) | contradiction))
set_option maxRecDepth 100000 in
set_option maxHeartbeats 4000000 in
theorem e_X7_used {l : Launch} {G : zGm} {d n o : Nat} {ly : zLy} {τ : zTu} {σ M : zSg} {g : Int32} (htr : l.stackTraces = false) (hM : zM ly o) (hd : 2 ≤ d) (hW : zmW M) : zEv l G d 0 0 (yX7_used, cX7_used, 2, some .int) [.ref o, .int g] (fun x => n ≤ x) ly τ (zwr σ o 103 M) (zPl n ly τ (zwr σ o 103 (mP_used M g).1) (some (.int (mP_used M g).2))) := by
  refine zEv_of (ls := [some (.ref o), some (.int g), none, none, none, none, none, none, none]) htr (by decide) (Nat.le_of_ble_eq_true rfl) rfl (fun X hO hE hN hRm hL hNm => ?_)
  have hO : zOk G X RX7 cX7_used 2 := hO
  have hW0 := zmW_0 hW
  refine zr_aload_0 hO dX7_used_0 ?_
  refine zr_iconst (v := 0) hO dX7_used_1 (by decide) ?_
  refine zg_putfi0 (c := 7) hO (zM_0 hM) (by decide) (by decide) (by decide) zf_X7_120 rfl rfl dX7_used_2 ?_
  refine zr_iload_1 hO dX7_used_5 ?_
  refine zr_iconst (v := 0) hO dX7_used_6 (by decide) ?_
  refine zr_iconst (v := 3) hO dX7_used_7 (by decide) ?_
  refine zr_S3 (D := d) hO hRm hL (by omega) (by decide) rfl (e_X7_is (d := d - 1) htr (by omega)) zl_X7_123 zt_X7_is zc_X7_is zn_X7 zd_X7_is (Nat.le_of_ble_eq_true rfl) dX7_used_8 (by omega) (by omega) ?_
  refine zV_pc (pc' := 11) rfl ?_
  refine zr_ifb_eq (tgt := 23) hO dX7_used_11 (by decide) (fun c11 => ?_) (fun c11 => ?_)
  · refine zr_aload_0 hO dX7_used_23 ?_
    refine zr_iconst (v := 1) hO dX7_used_24 (by decide) ?_
    refine zr_V1 (D := d) hO hRm hL (by omega) (by decide) (c := 7) (by decide) (zM_0 hM) rfl rfl (e_X7_refuse (d := d - 1) htr hM (by omega)) zl_X7_218 zi_X7_refuse zs_X7_refuse zc_X7_refuse zn_X7 zd_X7_refuse (Nat.le_of_ble_eq_true rfl) dX7_used_25 (by omega) (by omega) ?_
    exact zr_ireturn hO hE dX7_used_28 (zpl_i (by first | ((simp only [mP_used, mF_ref, if_neg (zif_f c11)]) <;> rfl) | contradiction) (by first | ((simp only [mP_used, mF_ref, if_neg (zif_f c11)]) <;> rfl) | contradiction))
  · refine zr_aload_0 hO dX7_used_14 ?_
    refine zr_getfr (c := 7) hO (by decide) (by decide) zf_X7_23 (zM_0 hM) rfl rfl dX7_used_15 ?_
    refine zr_iload_1 hO dX7_used_18 ?_
    refine zg_iald hO (zM_2 hM) (by decide) (by first | assumption | exact zin_task hW0 (by assumption) | exact zin_is (by assumption) (by decide) (by decide) | exact zin_proc hW0 (by assumption)) dX7_used_19 ?_
    refine zr_goto (tgt := 28) hO dX7_used_20 (by decide) ?_
    exact zr_ireturn hO hE dX7_used_28 (zpl_i (by first | ((simp only [mP_used, mF_ref, if_pos c11]) <;> rfl) | contradiction) (by first | ((simp only [mP_used, mF_ref, if_pos c11]) <;> rfl) | contradiction))
set_option maxRecDepth 100000 in
set_option maxHeartbeats 4000000 in
theorem e_X7_holder {l : Launch} {G : zGm} {d n o : Nat} {ly : zLy} {τ : zTu} {σ M : zSg} {q : Int32} (htr : l.stackTraces = false) (hM : zM ly o) (hd : 2 ≤ d) (hW : zmW M) : zEv l G d 0 0 (yX7_holder, cX7_holder, 2, some .int) [.ref o, .int q] (fun x => n ≤ x) ly τ (zwr σ o 103 M) (zPl n ly τ (zwr σ o 103 (mP_holder M q).1) (some (.int (mP_holder M q).2))) := by
  refine zEv_of (ls := [some (.ref o), some (.int q), none, none, none, none, none, none, none]) htr (by decide) (Nat.le_of_ble_eq_true rfl) rfl (fun X hO hE hN hRm hL hNm => ?_)
  have hO : zOk G X RX7 cX7_holder 2 := hO
  have hW0 := zmW_0 hW
  refine zr_aload_0 hO dX7_holder_0 ?_
  refine zr_iconst (v := 0) hO dX7_holder_1 (by decide) ?_
  refine zg_putfi0 (c := 7) hO (zM_0 hM) (by decide) (by decide) (by decide) zf_X7_120 rfl rfl dX7_holder_2 ?_
  refine zr_iload_1 hO dX7_holder_5 ?_
  refine zr_iconst (v := 0) hO dX7_holder_6 (by decide) ?_
  refine zr_iconst (v := 5) hO dX7_holder_7 (by decide) ?_
  refine zr_S3 (D := d) hO hRm hL (by omega) (by decide) rfl (e_X7_is (d := d - 1) htr (by omega)) zl_X7_123 zt_X7_is zc_X7_is zn_X7 zd_X7_is (Nat.le_of_ble_eq_true rfl) dX7_holder_8 (by omega) (by omega) ?_
  refine zV_pc (pc' := 11) rfl ?_
  refine zr_ifb_eq (tgt := 23) hO dX7_holder_11 (by decide) (fun c11 => ?_) (fun c11 => ?_)
  · refine zr_aload_0 hO dX7_holder_23 ?_
    refine zr_iconst (v := 1) hO dX7_holder_24 (by decide) ?_
    refine zr_V1 (D := d) hO hRm hL (by omega) (by decide) (c := 7) (by decide) (zM_0 hM) rfl rfl (e_X7_refuse (d := d - 1) htr hM (by omega)) zl_X7_218 zi_X7_refuse zs_X7_refuse zc_X7_refuse zn_X7 zd_X7_refuse (Nat.le_of_ble_eq_true rfl) dX7_holder_25 (by omega) (by omega) ?_
    exact zr_ireturn hO hE dX7_holder_28 (zpl_i (by first | ((simp only [mP_holder, mF_ref, if_neg (zif_f c11)]) <;> rfl) | contradiction) (by first | ((simp only [mP_holder, mF_ref, if_neg (zif_f c11)]) <;> rfl) | contradiction))
  · refine zr_aload_0 hO dX7_holder_14 ?_
    refine zr_getfr (c := 7) hO (by decide) (by decide) zf_X7_88 (zM_0 hM) rfl rfl dX7_holder_15 ?_
    refine zr_iload_1 hO dX7_holder_18 ?_
    refine zg_iald hO (zM_101 hM) (by decide) (by first | assumption | exact zin_task hW0 (by assumption) | exact zin_is (by assumption) (by decide) (by decide) | exact zin_proc hW0 (by assumption)) dX7_holder_19 ?_
    refine zr_goto (tgt := 28) hO dX7_holder_20 (by decide) ?_
    exact zr_ireturn hO hE dX7_holder_28 (zpl_i (by first | ((simp only [mP_holder, mF_ref, if_pos c11]) <;> rfl) | contradiction) (by first | ((simp only [mP_holder, mF_ref, if_pos c11]) <;> rfl) | contradiction))
set_option maxRecDepth 100000 in
set_option maxHeartbeats 4000000 in
theorem e_X7_number {l : Launch} {G : zGm} {d n o : Nat} {ly : zLy} {τ : zTu} {σ M : zSg} {q : Int32} (htr : l.stackTraces = false) (hM : zM ly o) (hd : 2 ≤ d) (hW : zmW M) : zEv l G d 0 0 (yX7_number, cX7_number, 2, some .int) [.ref o, .int q] (fun x => n ≤ x) ly τ (zwr σ o 103 M) (zPl n ly τ (zwr σ o 103 (mP_number M q).1) (some (.int (mP_number M q).2))) := by
  refine zEv_of (ls := [some (.ref o), some (.int q), none, none, none, none, none, none, none]) htr (by decide) (Nat.le_of_ble_eq_true rfl) rfl (fun X hO hE hN hRm hL hNm => ?_)
  have hO : zOk G X RX7 cX7_number 2 := hO
  have hW0 := zmW_0 hW
  refine zr_aload_0 hO dX7_number_0 ?_
  refine zr_iconst (v := 0) hO dX7_number_1 (by decide) ?_
  refine zg_putfi0 (c := 7) hO (zM_0 hM) (by decide) (by decide) (by decide) zf_X7_120 rfl rfl dX7_number_2 ?_
  refine zr_iload_1 hO dX7_number_5 ?_
  refine zr_iconst (v := 0) hO dX7_number_6 (by decide) ?_
  refine zr_iconst (v := 5) hO dX7_number_7 (by decide) ?_
  refine zr_S3 (D := d) hO hRm hL (by omega) (by decide) rfl (e_X7_is (d := d - 1) htr (by omega)) zl_X7_123 zt_X7_is zc_X7_is zn_X7 zd_X7_is (Nat.le_of_ble_eq_true rfl) dX7_number_8 (by omega) (by omega) ?_
  refine zV_pc (pc' := 11) rfl ?_
  refine zr_ifb_eq (tgt := 23) hO dX7_number_11 (by decide) (fun c11 => ?_) (fun c11 => ?_)
  · refine zr_aload_0 hO dX7_number_23 ?_
    refine zr_iconst (v := 1) hO dX7_number_24 (by decide) ?_
    refine zr_V1 (D := d) hO hRm hL (by omega) (by decide) (c := 7) (by decide) (zM_0 hM) rfl rfl (e_X7_refuse (d := d - 1) htr hM (by omega)) zl_X7_218 zi_X7_refuse zs_X7_refuse zc_X7_refuse zn_X7 zd_X7_refuse (Nat.le_of_ble_eq_true rfl) dX7_number_25 (by omega) (by omega) ?_
    exact zr_ireturn hO hE dX7_number_28 (zpl_i (by first | ((simp only [mP_number, mF_ref, if_neg (zif_f c11)]) <;> rfl) | contradiction) (by first | ((simp only [mP_number, mF_ref, if_neg (zif_f c11)]) <;> rfl) | contradiction))
  · refine zr_aload_0 hO dX7_number_14 ?_
    refine zr_getfr (c := 7) hO (by decide) (by decide) zf_X7_91 (zM_0 hM) rfl rfl dX7_number_15 ?_
    refine zr_iload_1 hO dX7_number_18 ?_
    refine zg_iald hO (zM_102 hM) (by decide) (by first | assumption | exact zin_task hW0 (by assumption) | exact zin_is (by assumption) (by decide) (by decide) | exact zin_proc hW0 (by assumption)) dX7_number_19 ?_
    refine zr_goto (tgt := 28) hO dX7_number_20 (by decide) ?_
    exact zr_ireturn hO hE dX7_number_28 (zpl_i (by first | ((simp only [mP_number, mF_ref, if_pos c11]) <;> rfl) | contradiction) (by first | ((simp only [mP_number, mF_ref, if_pos c11]) <;> rfl) | contradiction))
set_option maxRecDepth 100000 in
set_option maxHeartbeats 4000000 in
theorem e_X7_blocked {l : Launch} {G : zGm} {d n o : Nat} {ly : zLy} {τ : zTu} {σ M : zSg} {q : Int32} (htr : l.stackTraces = false) (hM : zM ly o) (hd : 2 ≤ d) (hW : zmW M) : zEv l G d 0 0 (yX7_blocked, cX7_blocked, 2, some .int) [.ref o, .int q] (fun x => n ≤ x) ly τ (zwr σ o 103 M) (zPl n ly τ (zwr σ o 103 (mP_waits M 4 q).1) (some (.int (mP_waits M 4 q).2))) := by
  refine zEv_of (ls := [some (.ref o), some (.int q), none, none, none, none, none, none, none]) htr (by decide) (Nat.le_of_ble_eq_true rfl) rfl (fun X hO hE hN hRm hL hNm => ?_)
  have hO : zOk G X RX7 cX7_blocked 2 := hO
  have hW0 := zmW_0 hW
  refine zr_aload_0 hO dX7_blocked_0 ?_
  refine zr_iconst (v := 0) hO dX7_blocked_1 (by decide) ?_
  refine zg_putfi0 (c := 7) hO (zM_0 hM) (by decide) (by decide) (by decide) zf_X7_120 rfl rfl dX7_blocked_2 ?_
  refine zr_iload_1 hO dX7_blocked_5 ?_
  refine zr_iconst (v := 0) hO dX7_blocked_6 (by decide) ?_
  refine zr_iconst (v := 5) hO dX7_blocked_7 (by decide) ?_
  refine zr_S3 (D := d) hO hRm hL (by omega) (by decide) rfl (e_X7_is (d := d - 1) htr (by omega)) zl_X7_123 zt_X7_is zc_X7_is zn_X7 zd_X7_is (Nat.le_of_ble_eq_true rfl) dX7_blocked_8 (by omega) (by omega) ?_
  refine zV_pc (pc' := 11) rfl ?_
  refine zr_ifb_eq (tgt := 23) hO dX7_blocked_11 (by decide) (fun c11 => ?_) (fun c11 => ?_)
  · refine zr_aload_0 hO dX7_blocked_23 ?_
    refine zr_iconst (v := 1) hO dX7_blocked_24 (by decide) ?_
    refine zr_V1 (D := d) hO hRm hL (by omega) (by decide) (c := 7) (by decide) (zM_0 hM) rfl rfl (e_X7_refuse (d := d - 1) htr hM (by omega)) zl_X7_218 zi_X7_refuse zs_X7_refuse zc_X7_refuse zn_X7 zd_X7_refuse (Nat.le_of_ble_eq_true rfl) dX7_blocked_25 (by omega) (by omega) ?_
    exact zr_ireturn hO hE dX7_blocked_28 (zpl_i (by first | ((simp only [mP_waits, mF_ref, if_neg (zif_f c11)]) <;> rfl) | contradiction) (by first | ((simp only [mP_waits, mF_ref, if_neg (zif_f c11)]) <;> rfl) | contradiction))
  · refine zr_aload_0 hO dX7_blocked_14 ?_
    refine zr_iconst (v := 4) hO dX7_blocked_15 (by decide) ?_
    refine zr_iload_1 hO dX7_blocked_16 ?_
    refine zr_V2 (D := d) hO hRm hL (by omega) (by decide) (c := 7) (by decide) (zM_0 hM) rfl rfl (e_X7_those (d := d - 1) htr hM (by omega) hW0) zl_X7_237 zi_X7_those zs_X7_those zc_X7_those zn_X7 zd_X7_those (Nat.le_of_ble_eq_true rfl) dX7_blocked_17 (by omega) (by omega) ?_
    refine zr_goto (tgt := 28) hO dX7_blocked_20 (by decide) ?_
    exact zr_ireturn hO hE dX7_blocked_28 (zpl_i (by first | ((simp only [mP_waits, mF_ref, if_pos c11]) <;> rfl) | contradiction) (by first | ((simp only [mP_waits, mF_ref, if_pos c11]) <;> rfl) | contradiction))
set_option maxRecDepth 100000 in
set_option maxHeartbeats 4000000 in
theorem e_X7_awaiting {l : Launch} {G : zGm} {d n o : Nat} {ly : zLy} {τ : zTu} {σ M : zSg} {q : Int32} (htr : l.stackTraces = false) (hM : zM ly o) (hd : 2 ≤ d) (hW : zmW M) : zEv l G d 0 0 (yX7_awaiting, cX7_awaiting, 2, some .int) [.ref o, .int q] (fun x => n ≤ x) ly τ (zwr σ o 103 M) (zPl n ly τ (zwr σ o 103 (mP_waits M 5 q).1) (some (.int (mP_waits M 5 q).2))) := by
  refine zEv_of (ls := [some (.ref o), some (.int q), none, none, none, none, none, none, none]) htr (by decide) (Nat.le_of_ble_eq_true rfl) rfl (fun X hO hE hN hRm hL hNm => ?_)
  have hO : zOk G X RX7 cX7_awaiting 2 := hO
  have hW0 := zmW_0 hW
  refine zr_aload_0 hO dX7_awaiting_0 ?_
  refine zr_iconst (v := 0) hO dX7_awaiting_1 (by decide) ?_
  refine zg_putfi0 (c := 7) hO (zM_0 hM) (by decide) (by decide) (by decide) zf_X7_120 rfl rfl dX7_awaiting_2 ?_
  refine zr_iload_1 hO dX7_awaiting_5 ?_
  refine zr_iconst (v := 0) hO dX7_awaiting_6 (by decide) ?_
  refine zr_iconst (v := 5) hO dX7_awaiting_7 (by decide) ?_
  refine zr_S3 (D := d) hO hRm hL (by omega) (by decide) rfl (e_X7_is (d := d - 1) htr (by omega)) zl_X7_123 zt_X7_is zc_X7_is zn_X7 zd_X7_is (Nat.le_of_ble_eq_true rfl) dX7_awaiting_8 (by omega) (by omega) ?_
  refine zV_pc (pc' := 11) rfl ?_
  refine zr_ifb_eq (tgt := 23) hO dX7_awaiting_11 (by decide) (fun c11 => ?_) (fun c11 => ?_)
  · refine zr_aload_0 hO dX7_awaiting_23 ?_
    refine zr_iconst (v := 1) hO dX7_awaiting_24 (by decide) ?_
    refine zr_V1 (D := d) hO hRm hL (by omega) (by decide) (c := 7) (by decide) (zM_0 hM) rfl rfl (e_X7_refuse (d := d - 1) htr hM (by omega)) zl_X7_218 zi_X7_refuse zs_X7_refuse zc_X7_refuse zn_X7 zd_X7_refuse (Nat.le_of_ble_eq_true rfl) dX7_awaiting_25 (by omega) (by omega) ?_
    exact zr_ireturn hO hE dX7_awaiting_28 (zpl_i (by first | ((simp only [mP_waits, mF_ref, if_neg (zif_f c11)]) <;> rfl) | contradiction) (by first | ((simp only [mP_waits, mF_ref, if_neg (zif_f c11)]) <;> rfl) | contradiction))
  · refine zr_aload_0 hO dX7_awaiting_14 ?_
    refine zr_iconst (v := 5) hO dX7_awaiting_15 (by decide) ?_
    refine zr_iload_1 hO dX7_awaiting_16 ?_
    refine zr_V2 (D := d) hO hRm hL (by omega) (by decide) (c := 7) (by decide) (zM_0 hM) rfl rfl (e_X7_those (d := d - 1) htr hM (by omega) hW0) zl_X7_237 zi_X7_those zs_X7_those zc_X7_those zn_X7 zd_X7_those (Nat.le_of_ble_eq_true rfl) dX7_awaiting_17 (by omega) (by omega) ?_
    refine zr_goto (tgt := 28) hO dX7_awaiting_20 (by decide) ?_
    exact zr_ireturn hO hE dX7_awaiting_28 (zpl_i (by first | ((simp only [mP_waits, mF_ref, if_pos c11]) <;> rfl) | contradiction) (by first | ((simp only [mP_waits, mF_ref, if_pos c11]) <;> rfl) | contradiction))
set_option maxRecDepth 100000 in
set_option maxHeartbeats 4000000 in
theorem e_X7_stuck {l : Launch} {G : zGm} {d n o : Nat} {ly : zLy} {τ : zTu} {σ M : zSg}  (htr : l.stackTraces = false) (hM : zM ly o) (hd : 2 ≤ d) (hW : zmW M) (hB : zBl M) : zEv l G d 0 0 (yX7_stuck, cX7_stuck, 1, some .int) [.ref o] (fun x => n ≤ x) ly τ (zwr σ o 103 M) (zPl n ly τ (zwr σ o 103 ((zup M 0 0 0, mF_stuck (zup M 0 0 0))).1) (some (.int ((zup M 0 0 0, mF_stuck (zup M 0 0 0))).2))) := by
  refine zEv_of (ls := [some (.ref o), none, none, none, none, none, none, none, none]) htr (by decide) (Nat.le_of_ble_eq_true rfl) rfl (fun X hO hE hN hRm hL hNm => ?_)
  have hO : zOk G X RX7 cX7_stuck 1 := hO
  have hW0 := zmW_0 hW
  have hB0 : zBl (zup M 0 0 0) := hB
  refine zr_aload_0 hO dX7_stuck_0 ?_
  refine zr_iconst (v := 0) hO dX7_stuck_1 (by decide) ?_
  refine zg_putfi0 (c := 7) hO (zM_0 hM) (by decide) (by decide) (by decide) zf_X7_120 rfl rfl dX7_stuck_2 ?_
  refine zr_aload_0 hO dX7_stuck_5 ?_
  refine zr_V0 (D := d) hO hRm hL (by omega) (by decide) (c := 7) (by decide) (zM_0 hM) rfl rfl (e_X7_stuckNow (d := d - 1) htr hM (by omega) hW0 hB0) zl_X7_240 zi_X7_stuckNow zs_X7_stuckNow zc_X7_stuckNow zn_X7 zd_X7_stuckNow (Nat.le_of_ble_eq_true rfl) dX7_stuck_6 (by omega) (by omega) ?_
  exact zr_ireturn hO hE dX7_stuck_9 (zpl_i (by first | ((simp only [mF_ref]) <;> rfl) | contradiction) (by first | ((simp only [mF_ref]) <;> rfl) | contradiction))
