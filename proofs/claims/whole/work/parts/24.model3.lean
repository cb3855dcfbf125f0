set_option maxRecDepth 100000 in
set_option maxHeartbeats 4000000 in
theorem e_X7_goOn {l : Launch} {G : zGm} {d n o : Nat} {ly : zLy} {τ : zTu} {σ M : zSg} {t p : Int32} {b : Bool} {M2 : zSg} (htr : l.stackTraces = false) (hM : zM ly o) (hd : 6 ≤ d) (hW : zmW M) (ht : vp_in t 16) (hp : vp_in p 3) (f : Nat) (hg : mF_goOn f M t p = some (b, M2)) : zEv l G d 0 0 (yX7_goOn, cX7_goOn, 5, some .boolean) [.ref o, .int t, .int p] (fun x => n ≤ x) ly τ (zwr σ o 103 M) (zPl n ly τ (zwr σ o 103 M2) (some (.int (zb b)))) := by
  refine zEv_of (ls := [some (.ref o), some (.int t), some (.int p), none, none, none, none, none, none]) htr (by decide) (Nat.le_of_ble_eq_true rfl) rfl (fun X hO hE hN hRm hL hNm => ?_)
  have hO : zOk G X RX7 cX7_goOn 5 := hO
  have key : ∀ (f : Nat) (M1 : zSg), zk M M1 → mF_goOn f M1 t p = some (b, M2) → zV G X 5 0 0 (fun x => n ≤ x) ly τ (zwr σ o 103 M1) 0 [some (.ref o), some (.int t), some (.int p), none, none, none, none, none, none] [] := by
    intro f
    induction f with
    | zero => intro M1 _ h; cases h
    | succ f ih =>
      intro M1 hM1 h
      refine zr_aload_0 hO dX7_goOn_0 ?_
      refine zr_getfr (c := 7) hO (by decide) (by decide) zf_X7_46 (zM_0 hM) rfl rfl dX7_goOn_1 ?_
      refine zr_iload_1 hO dX7_goOn_4 ?_
      refine zg_iald hO (zM_41 hM) (by decide) (by first | assumption | exact zin_i hs) dX7_goOn_5 ?_
      refine zr_iconst (v := 2) hO dX7_goOn_6 (by decide) ?_
      refine zr_icmp_ne (tgt := 64) hO dX7_goOn_7 (by decide) (fun c7 => ?_) (fun c7 => ?_)
      · rw [mF_goOn, if_neg c7] at h
        cases h
        refine zr_iconst (v := 0) hO dX7_goOn_64 (by decide) ?_
        exact zr_zreturn hO hE (by decide) dX7_goOn_65 (zpl_i rfl rfl)
      · rw [mF_goOn, if_pos c7] at h
        by_cases hs0 : ¬ (0 ≤ (M1 42 (ix t)).toInt ∧ (M1 42 (ix t)).toInt < 16)
        · rw [if_neg hs0] at h; cases h
        have hs := Decidable.not_not.mp hs0
        rw [if_pos hs] at h
        refine zr_aload_0 hO dX7_goOn_10 ?_
        refine zr_getfr (c := 7) hO (by decide) (by decide) zf_X7_40 (zM_0 hM) rfl rfl dX7_goOn_11 ?_
        refine zr_iload_1 hO dX7_goOn_14 ?_
        refine zr_aaldIx hO (zM_7 hM) (by first | assumption | exact zin_i hs) dX7_goOn_15 (fun hx15_0 => ?_)
        refine zr_aload_0 hO dX7_goOn_16 ?_
        refine zr_getfr (c := 7) hO (by decide) (by decide) zf_X7_49 (zM_0 hM) rfl rfl dX7_goOn_17 ?_
        refine zr_iload_1 hO dX7_goOn_20 ?_
        refine zV_pc (pc' := 21) rfl ?_
        refine zg_iald hO (zM_42 hM) (by decide) (by first | assumption | exact zin_i hs) dX7_goOn_21 ?_
        refine zg_iald hO (zM_code hM hx15_0) (by have := hx15_0; omega) (by first | assumption | exact zin_i hs) dX7_goOn_22 ?_
        refine zr_istore_3 hO dX7_goOn_23 (by decide) rfl ?_
        refine zr_aload_0 hO dX7_goOn_24 ?_
        refine zr_getfr (c := 7) hO (by decide) (by decide) zf_X7_43 (zM_0 hM) rfl rfl dX7_goOn_25 ?_
        refine zr_iload_1 hO dX7_goOn_28 ?_
        refine zr_aaldIx hO (zM_24 hM) (by first | assumption | exact zin_i hs) dX7_goOn_29 (fun hx29_1 => ?_)
        refine zV_pc (pc' := 30) rfl ?_
        refine zr_aload_0 hO dX7_goOn_30 ?_
        refine zr_getfr (c := 7) hO (by decide) (by decide) zf_X7_49 (zM_0 hM) rfl rfl dX7_goOn_31 ?_
        refine zr_iload_1 hO dX7_goOn_34 ?_
        refine zg_iald hO (zM_42 hM) (by decide) (by first | assumption | exact zin_i hs) dX7_goOn_35 ?_
        refine zg_iald hO (zM_num hM hx29_1) (by have := hx29_1; omega) (by first | assumption | exact zin_i hs) dX7_goOn_36 ?_
        refine zr_istore_4 hO dX7_goOn_37 (by decide) rfl ?_
        refine zr_iload_3 hO dX7_goOn_39 ?_
        refine zV_pc (pc' := 40) rfl ?_
        refine zr_if_ne (tgt := 53) hO dX7_goOn_40 (by decide) (fun c40 => ?_) (fun c40 => ?_)
        · rw [if_neg c40] at h
          by_cases h60 : ¬ zok6 (M1 (8 + ix t) (ix (M1 42 (ix t)))) (M1 (25 + ix t) (ix (M1 42 (ix t)))) = true
          · rw [if_neg h60] at h; cases h
          have h6 := Decidable.not_not.mp h60
          rw [if_pos h6] at h
          refine zr_aload_0 hO dX7_goOn_53 ?_
          refine zr_iload_1 hO dX7_goOn_54 ?_
          refine zr_iload_3 hO dX7_goOn_55 ?_
          refine zr_iload_4 hO dX7_goOn_56 ?_
          refine zr_V3 (D := d) hO hRm hL (by omega) (by decide) (c := 7) (by decide) (zM_0 hM) rfl rfl (e_X7_doStep (d := d - 1) htr hM (by omega) hM1.1 ht (zok6_of h6)) zl_X7_187 zi_X7_doStep zs_X7_doStep zc_X7_doStep zn_X7 zd_X7_doStep (Nat.le_of_ble_eq_true rfl) dX7_goOn_58 (by omega) (by omega) ?_
          refine zr_goto (tgt := 0) hO dX7_goOn_61 (by decide) ?_
          refine zV_d3 ?_
          refine zV_d4 ?_
          exact ih _ (zk_doStep hM1 _ _ _ ht (zok6_of h6)) h
        · rw [if_pos c40] at h
          cases h
          refine zr_aload_0 hO dX7_goOn_43 ?_
          refine zr_iload_1 hO dX7_goOn_44 ?_
          refine zr_iload_2 hO dX7_goOn_45 ?_
          refine zr_iload_4 hO dX7_goOn_46 ?_
          refine zr_V3 (D := d) hO hRm hL (by omega) (by decide) (c := 7) (by decide) (zM_0 hM) rfl rfl (e_X7_runOne (d := d - 1) htr hM (by omega) hM1.1 ht hp) zl_X7_183 zi_X7_runOne zs_X7_runOne zc_X7_runOne zn_X7 zd_X7_runOne (Nat.le_of_ble_eq_true rfl) dX7_goOn_48 (by omega) (by omega) ?_
          refine zr_iconst (v := 1) hO dX7_goOn_51 (by decide) ?_
          exact zr_zreturn hO hE (by decide) dX7_goOn_52 (zpl_i rfl rfl)
  exact key f M (zk_r hW) hg
set_option maxRecDepth 100000 in
set_option maxHeartbeats 4000000 in
theorem e_X7_has {l : Launch} {G : zGm} {d n a : Nat} {ly : zLy} {τ : zTu} {σ : zSg} {rf : Nat → Option Nat} {N m : Nat} {t : Int32} (htr : l.stackTraces = false) (hly : ly a = (1, N, rf)) (hm : m ≤ N) (hN : N ≤ 64) : zEv l G d 0 0 (yX7_has, cX7_has, 4, some .boolean) [.ref a, .int (nI m), .int t] (fun x => n ≤ x) ly τ σ (zPl n ly τ σ (some (.int (zb (mF_any (σ a) m t))))) := by
  refine zEv_of (ls := [some (.ref a), some (.int (nI m)), some (.int t), none, none, none, none, none, none]) htr (by decide) (Nat.le_of_ble_eq_true rfl) rfl (fun X hO hE hN hRm hL hNm => ?_)
  have hO : zOk G X RX7 cX7_has 4 := hO
  have key : ∀ j k : Nat, k + j = m → (∀ i, i < k → ¬ σ a i = t) → zV G X 4 0 0 (fun x => n ≤ x) ly τ σ 2 [some (.ref a), some (.int (nI m)), some (.int t), some (.int (nI k)), none, none, none, none, none] [] := by
    intro j
    induction j with
    | zero =>
      intro k hk hno
      have hkm : k = m := by omega
      subst hkm
      refine zr_iload_3 hO dX7_has_2 ?_
      refine zr_iload_1 hO dX7_has_3 ?_
      refine zr_icmp_ge (tgt := 22) hO dX7_has_4 (by decide) (fun c4 => ?_) (fun c4 => absurd c4 Int32.lt_irrefl)
      refine zr_iconst (v := 0) hO dX7_has_22 (by decide) ?_
      refine zr_zreturn hO hE (by decide) dX7_has_23 (zpl_is ?_)
      rw [mF_any_f hno]
      rfl
    | succ j ih =>
      intro k hk hno
      refine zr_iload_3 hO dX7_has_2 ?_
      refine zr_iload_1 hO dX7_has_3 ?_
      refine zr_icmp_ge (tgt := 22) hO dX7_has_4 (by decide) (fun c4 => absurd (nI_lt (by omega) (by omega)) c4) (fun c4 => ?_)
      refine zr_aload_0 hO dX7_has_7 ?_
      refine zr_iload_3 hO dX7_has_8 ?_
      refine zr_iald hO hly (vp_in_nI (by omega) (by omega)) dX7_has_9 ?_
      rw [zix (by omega)]
      refine zr_iload_2 hO dX7_has_10 ?_
      refine zr_icmp_ne (tgt := 16) hO dX7_has_11 (by decide) (fun c11 => ?_) (fun c11 => ?_)
      · refine zr_iinc_3 (v := 1) hO dX7_has_16 (by decide) (by decide) rfl ?_
        refine zr_goto (tgt := 2) hO dX7_has_19 (by decide) ?_
        rw [nI_1]
        exact ih (k + 1) (by omega) (fun i hi => by
          rcases Nat.lt_succ_iff_lt_or_eq.mp hi with h | h
          · exact hno i h
          · rw [h]; exact c11)
      · refine zr_iconst (v := 1) hO dX7_has_14 (by decide) ?_
        refine zr_zreturn hO hE (by decide) dX7_has_15 (zpl_is ?_)
        rw [mF_any_t (by omega) c11]
        rfl
  refine zr_iconst (v := 0) hO dX7_has_0 (by decide) ?_
  refine zr_istore_3 hO dX7_has_1 (by decide) rfl ?_
  rw [← nI_0]
  exact key m 0 (by omega) (fun i hi => absurd hi (Nat.not_lt_zero i))
set_option maxRecDepth 100000 in
set_option maxHeartbeats 4000000 in
theorem e_X7_give {l : Launch} {G : zGm} {d n o : Nat} {ly : zLy} {τ : zTu} {σ M : zSg} {t : Int32} (htr : l.stackTraces = false) (hM : zM ly o) (hd : 0 ≤ d) (ht : vp_in t 16) (hfree : ¬ M 68 (ix 0) = -1 → ¬ M 68 (ix (0 + 1)) = -1 → M 68 (ix (0 + 1 + 1)) = -1) : zEv l G d 0 0 (yX7_give, cX7_give, 3, none) [.ref o, .int t] (fun x => n ≤ x) ly τ (zwr σ o 103 M) (zPl n ly τ (zwr σ o 103 (mF_give M t)) none) := by
  refine zEv_of (ls := [some (.ref o), some (.int t), none, none, none, none, none, none, none]) htr (by decide) (Nat.le_of_ble_eq_true rfl) rfl (fun X hO hE hN hRm hL hNm => ?_)
  have hO : zOk G X RX7 cX7_give 3 := hO
  refine zr_iconst (v := 0) hO dX7_give_0 (by decide) ?_
  refine zr_istore_2 hO dX7_give_1 (by decide) rfl ?_
  refine zr_aload_0 hO dX7_give_2 ?_
  refine zr_getfr (c := 7) hO (by decide) (by decide) zf_X7_79 (zM_0 hM) rfl rfl dX7_give_3 ?_
  refine zr_iload_2 hO dX7_give_6 ?_
  refine zg_iald hO (zM_68 hM) (by decide) (zin_i ⟨by decide, by decide⟩) dX7_give_7 ?_
  refine zr_iconst (v := (-1)) hO dX7_give_8 (by decide) ?_
  refine zV_pc (pc' := 9) rfl ?_
  refine zr_icmp_eq (tgt := 18) hO dX7_give_9 (by decide) (fun c9 => ?_) (fun c9 => ?_)
  · refine zr_aload_0 hO dX7_give_18 ?_
    refine zr_getfr (c := 7) hO (by decide) (by decide) zf_X7_79 (zM_0 hM) rfl rfl dX7_give_19 ?_
    refine zr_iload_2 hO dX7_give_22 ?_
    refine zr_iload_1 hO dX7_give_23 ?_
    refine zg_iast hO (zM_68 hM) (by decide) (zin_i ⟨by decide, by decide⟩) dX7_give_24 ?_
    refine zr_aload_0 hO dX7_give_25 ?_
    refine zr_getfr (c := 7) hO (by decide) (by decide) zf_X7_82 (zM_0 hM) rfl rfl dX7_give_26 ?_
    refine zV_pc (pc' := 29) rfl ?_
    refine zr_iload_2 hO dX7_give_29 ?_
    refine zr_iconst (v := 0) hO dX7_give_30 (by decide) ?_
    refine zg_iast hO (zM_69 hM) (by decide) (zin_i ⟨by decide, by decide⟩) dX7_give_31 ?_
    refine zr_aload_0 hO dX7_give_32 ?_
    refine zr_getfr (c := 7) hO (by decide) (by decide) zf_X7_46 (zM_0 hM) rfl rfl dX7_give_33 ?_
    refine zr_iload_1 hO dX7_give_36 ?_
    refine zr_iconst (v := 2) hO dX7_give_37 (by decide) ?_
    refine zV_pc (pc' := 38) rfl ?_
    refine zg_iast hO (zM_41 hM) (by decide) (by first | assumption | exact zin_i ⟨by decide, by decide⟩) dX7_give_38 ?_
    refine zr_aload_0 hO dX7_give_39 ?_
    refine zr_dup hO dX7_give_40 rfl ?_
    refine zg_getfi0 (c := 7) hO (zM_0 hM) (by decide) (by decide) (by decide) zf_X7_180 rfl dX7_give_41 ?_
    refine zr_iconst (v := 1) hO dX7_give_44 (by decide) ?_
    refine zr_iadd hO dX7_give_45 ?_
    refine zg_putfi0 (c := 7) hO (zM_0 hM) (by decide) (by decide) (by decide) zf_X7_180 rfl rfl dX7_give_46 ?_
    refine zV_pc (pc' := 49) rfl ?_
    exact zr_return hO hE dX7_give_49 (zpl_v (by first | ((simp only [mF_give, mF_give0, if_pos c9]) <;> rfl) | contradiction))
  · refine zr_iinc_2 (v := 1) hO dX7_give_12 (by decide) (by decide) rfl ?_
    refine zr_goto (tgt := 2) hO dX7_give_15 (by decide) ?_
    refine zr_aload_0 hO dX7_give_2 ?_
    refine zr_getfr (c := 7) hO (by decide) (by decide) zf_X7_79 (zM_0 hM) rfl rfl dX7_give_3 ?_
    refine zr_iload_2 hO dX7_give_6 ?_
    refine zg_iald hO (zM_68 hM) (by decide) (by first | assumption | exact zin_i ⟨by decide, by decide⟩) dX7_give_7 ?_
    refine zr_iconst (v := (-1)) hO dX7_give_8 (by decide) ?_
    refine zV_pc (pc' := 9) rfl ?_
    refine zr_icmp_eq (tgt := 18) hO dX7_give_9 (by decide) (fun c9' => ?_) (fun c9' => ?_)
    · refine zr_aload_0 hO dX7_give_18 ?_
      refine zr_getfr (c := 7) hO (by decide) (by decide) zf_X7_79 (zM_0 hM) rfl rfl dX7_give_19 ?_
      refine zr_iload_2 hO dX7_give_22 ?_
      refine zr_iload_1 hO dX7_give_23 ?_
      refine zg_iast hO (zM_68 hM) (by decide) (by first | assumption | exact zin_i ⟨by decide, by decide⟩) dX7_give_24 ?_
      refine zr_aload_0 hO dX7_give_25 ?_
      refine zr_getfr (c := 7) hO (by decide) (by decide) zf_X7_82 (zM_0 hM) rfl rfl dX7_give_26 ?_
      refine zV_pc (pc' := 29) rfl ?_
      refine zr_iload_2 hO dX7_give_29 ?_
      refine zr_iconst (v := 0) hO dX7_give_30 (by decide) ?_
      refine zg_iast hO (zM_69 hM) (by decide) (by first | assumption | exact zin_i ⟨by decide, by decide⟩) dX7_give_31 ?_
      refine zr_aload_0 hO dX7_give_32 ?_
      refine zr_getfr (c := 7) hO (by decide) (by decide) zf_X7_46 (zM_0 hM) rfl rfl dX7_give_33 ?_
      refine zr_iload_1 hO dX7_give_36 ?_
      refine zr_iconst (v := 2) hO dX7_give_37 (by decide) ?_
      refine zV_pc (pc' := 38) rfl ?_
      refine zg_iast hO (zM_41 hM) (by decide) (by first | assumption | exact zin_i ⟨by decide, by decide⟩) dX7_give_38 ?_
      refine zr_aload_0 hO dX7_give_39 ?_
      refine zr_dup hO dX7_give_40 rfl ?_
      refine zg_getfi0 (c := 7) hO (zM_0 hM) (by decide) (by decide) (by decide) zf_X7_180 rfl dX7_give_41 ?_
      refine zr_iconst (v := 1) hO dX7_give_44 (by decide) ?_
      refine zr_iadd hO dX7_give_45 ?_
      refine zg_putfi0 (c := 7) hO (zM_0 hM) (by decide) (by decide) (by decide) zf_X7_180 rfl rfl dX7_give_46 ?_
      refine zV_pc (pc' := 49) rfl ?_
      exact zr_return hO hE dX7_give_49 (zpl_v (by first | ((simp only [mF_give, mF_give0, if_neg c9, if_pos c9']) <;> rfl) | contradiction))
    · refine zr_iinc_2 (v := 1) hO dX7_give_12 (by decide) (by decide) rfl ?_
      refine zr_goto (tgt := 2) hO dX7_give_15 (by decide) ?_
      refine zr_aload_0 hO dX7_give_2 ?_
      refine zr_getfr (c := 7) hO (by decide) (by decide) zf_X7_79 (zM_0 hM) rfl rfl dX7_give_3 ?_
      refine zr_iload_2 hO dX7_give_6 ?_
      refine zg_iald hO (zM_68 hM) (by decide) (by first | assumption | exact zin_i ⟨by decide, by decide⟩) dX7_give_7 ?_
      refine zr_iconst (v := (-1)) hO dX7_give_8 (by decide) ?_
      refine zV_pc (pc' := 9) rfl ?_
      refine zr_icmp_eq (tgt := 18) hO dX7_give_9 (by decide) (fun c9'' => ?_) (fun c9'' => ?_)
      · refine zr_aload_0 hO dX7_give_18 ?_
        refine zr_getfr (c := 7) hO (by decide) (by decide) zf_X7_79 (zM_0 hM) rfl rfl dX7_give_19 ?_
        refine zr_iload_2 hO dX7_give_22 ?_
        refine zr_iload_1 hO dX7_give_23 ?_
        refine zg_iast hO (zM_68 hM) (by decide) (by first | assumption | exact zin_i ⟨by decide, by decide⟩) dX7_give_24 ?_
        refine zr_aload_0 hO dX7_give_25 ?_
        refine zr_getfr (c := 7) hO (by decide) (by decide) zf_X7_82 (zM_0 hM) rfl rfl dX7_give_26 ?_
        refine zV_pc (pc' := 29) rfl ?_
        refine zr_iload_2 hO dX7_give_29 ?_
        refine zr_iconst (v := 0) hO dX7_give_30 (by decide) ?_
        refine zg_iast hO (zM_69 hM) (by decide) (by first | assumption | exact zin_i ⟨by decide, by decide⟩) dX7_give_31 ?_
        refine zr_aload_0 hO dX7_give_32 ?_
        refine zr_getfr (c := 7) hO (by decide) (by decide) zf_X7_46 (zM_0 hM) rfl rfl dX7_give_33 ?_
        refine zr_iload_1 hO dX7_give_36 ?_
        refine zr_iconst (v := 2) hO dX7_give_37 (by decide) ?_
        refine zV_pc (pc' := 38) rfl ?_
        refine zg_iast hO (zM_41 hM) (by decide) (by first | assumption | exact zin_i ⟨by decide, by decide⟩) dX7_give_38 ?_
        refine zr_aload_0 hO dX7_give_39 ?_
        refine zr_dup hO dX7_give_40 rfl ?_
        refine zg_getfi0 (c := 7) hO (zM_0 hM) (by decide) (by decide) (by decide) zf_X7_180 rfl dX7_give_41 ?_
        refine zr_iconst (v := 1) hO dX7_give_44 (by decide) ?_
        refine zr_iadd hO dX7_give_45 ?_
        refine zg_putfi0 (c := 7) hO (zM_0 hM) (by decide) (by decide) (by decide) zf_X7_180 rfl rfl dX7_give_46 ?_
        refine zV_pc (pc' := 49) rfl ?_
        exact zr_return hO hE dX7_give_49 (zpl_v (by first | ((simp only [mF_give, mF_give0, if_neg c9, if_neg c9', if_pos c9'']) <;> rfl) | contradiction))
      · exact absurd (hfree c9 c9') c9''
