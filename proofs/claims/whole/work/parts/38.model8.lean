set_option maxRecDepth 100000 in
set_option maxHeartbeats 4000000 in
theorem e_X7_doneIn {l : Launch} {G : zGm} {d n o : Nat} {ly : zLy} {τ : zTu} {σ M : zSg} {t u : Int32} {f : Nat} {r : zSg × Int32} (htr : l.stackTraces = false) (hM : zM ly o) (hd : 9 ≤ d) (hW : zmW M) (hon : o + 103 ≤ n) (hz : ∀ a, n ≤ a → (ly a).1 = 0) (hr : mP_doneIn f M t u = some r) :
    zEv l G d 285 2469 (yX7_doneIn, cX7_doneIn, 3, some .int) [.ref o, .int t, .int u] (fun x => n ≤ x) ly τ (zwr σ o 103 M) (zPl n ly τ (zwr σ o 103 r.1) (some (.int r.2))) := by
  refine zEv_of (ls := [some (.ref o), some (.int t), some (.int u), none, none, none, none, none, none]) htr (by decide) (Nat.le_of_ble_eq_true rfl) rfl (fun X hO hE hN hRm hL hNm => ?_)
  have hO : zOk G X RX7 cX7_doneIn 3 := hO
  have hW0 := zmW_0 hW
  refine zr_aload_0 hO dX7_doneIn_0 ?_
  refine zr_iconst (v := 0) hO dX7_doneIn_1 (by decide) ?_
  refine zg_putfi0 (c := 7) hO (zM_0 hM) (by decide) (by decide) (by decide) zf_X7_120 rfl rfl dX7_doneIn_2 ?_
  refine zr_aload_0 hO dX7_doneIn_5 ?_
  refine zr_iload_1 hO dX7_doneIn_6 ?_
  refine zr_V1 (D := d) hO hRm hL (by omega) (by decide) (c := 7) (by decide) (zM_0 hM) rfl rfl (e_X7_isTask (d := d - 1) htr hM (by omega)) zl_X7_221 zi_X7_isTask zs_X7_isTask zc_X7_isTask zn_X7 zd_X7_isTask (Nat.le_of_ble_eq_true rfl) dX7_doneIn_7 (by omega) (by omega) ?_
  refine zr_ifb_ne (tgt := 19) hO dX7_doneIn_10 (by decide) (fun c10 => ?_) (fun c10 => ?_)
  · refine zr_iload_2 hO dX7_doneIn_19 ?_
    refine zr_iconst (v := 1) hO dX7_doneIn_20 (by decide) ?_
    refine zr_bipush (v := 60) hO dX7_doneIn_21 (by decide) ?_
    refine zr_S3 (D := d) hO hRm hL (by omega) (by decide) rfl (e_X7_is (d := d - 1) htr (by omega)) zl_X7_123 zt_X7_is zc_X7_is zn_X7 zd_X7_is (Nat.le_of_ble_eq_true rfl) dX7_doneIn_23 (by omega) (by omega) ?_
    refine zr_ifb_eq (tgt := 41) hO dX7_doneIn_26 (by decide) (fun c26 => ?_) (fun c26 => ?_)
    · refine zr_aload_0 hO dX7_doneIn_41 ?_
      refine zr_iconst (v := 2) hO dX7_doneIn_42 (by decide) ?_
      refine zr_V1 (D := d) hO hRm hL (by omega) (by decide) (c := 7) (by decide) (zM_0 hM) rfl rfl (e_X7_refuse (d := d - 1) htr hM (by omega)) zl_X7_218 zi_X7_refuse zs_X7_refuse zc_X7_refuse zn_X7 zd_X7_refuse (Nat.le_of_ble_eq_true rfl) dX7_doneIn_43 (by omega) (by omega) ?_
      unfold mP_doneIn at hr
      rw [if_pos c10, if_neg (zif_f c26)] at hr
      cases hr
      exact zr_ireturn hO hE dX7_doneIn_46 (fun z9 hz9 => ⟨rfl, by first | exact hz9 | (have := hz9; omega), rfl, rfl, rfl⟩)
    · refine zr_aload_0 hO dX7_doneIn_29 ?_
      unfold mP_doneIn at hr
      rw [if_pos c10, if_pos c26] at hr
      refine z_callV (D := d) (As := []) hO hRm hL (by omega) (by decide) (c := 7) (by decide) (zM_0 hM) rfl rfl (e_X7_copy (d := d - 1) htr hM (by omega) hW0 hon hz) zl_X7_244 zi_X7_copy zs_X7_copy zc_X7_copy zn_X7 zd_X7_copy (Nat.le_of_ble_eq_true rfl) dX7_doneIn_30 (by decide) (by decide) (fun E z ly' τ' σ' h => by obtain ⟨q, h1, _⟩ := h; cases h1) (fun v z ly' τ' σ' h => ?_)
      obtain ⟨q, hv, hq, hqz, hMq, hlo, hhi, hτl, hσ⟩ := h
      replace hqz : q + 103 ≤ z := hqz
      replace hq : n ≤ q := hq
      replace hlo : ∀ a, a < q → ly' a = ly a := hlo
      replace hhi : ∀ a, q + 103 ≤ a → (ly' a).1 = 0 := hhi
      cases hv
      subst hσ
      refine zV_S (S' := fun x => z ≤ x) (fun w hw => by omega) ?_
      have hz2 : ∀ a, z ≤ a → (ly' a).1 = 0 := fun a ha => hhi a (by omega)
      have hWc := zmW_copy hW0
      refine zr_iload_1 hO dX7_doneIn_33 ?_
      refine zr_iload_2 hO dX7_doneIn_34 ?_
      rcases hdn : mF_done f t (ix u) 0 (mF_copy (zup M 0 0 0)) with _ | v9
      · rw [hdn] at hr; cases hr
      rw [hdn] at hr
      cases hr
      refine z_callS (D := d) (As := [.ref q, .int t, .int u]) hO hRm hL (by omega) (by decide) rfl (e_X7_doneAhead (d := d - 1) htr hMq (by omega) hWc (zin_task hW0 c10) (by have := zis_ge c26; rw [show (1 : Int32).toInt = 1 from rfl] at this; omega) (by have := zis_le c26; rw [show (60 : Int32).toInt = 60 from rfl] at this; omega) hqz hz2 hdn) zl_X7_248 zt_X7_doneAhead zc_X7_doneAhead zn_X7 zd_X7_doneAhead (Nat.le_of_ble_eq_true rfl) dX7_doneIn_35 (by decide) (by decide) (fun E z ly' τ' σ' h => by cases h.1) (fun v z8 ly8 τ8 σ8 h => ?_)
      obtain ⟨hv8, hz8, rfl, rfl, M8, rfl⟩ := h
      replace hz8 : z ≤ z8 := hz8
      cases hv8
      refine zV_to (ly' := ly) (τ' := τ) (σ' := zwr σ o 103 (zup M 0 0 0)) (z_back hq hz hlo hτl) ?_
      refine zV_S (S' := fun x => n ≤ x) (fun w hw => by omega) ?_
      refine zr_goto (tgt := 46) hO dX7_doneIn_38 (by decide) ?_
      exact zr_ireturn hO hE dX7_doneIn_46 (fun z9 hz9 => ⟨rfl, hz9, rfl, rfl, rfl⟩)
  · refine zr_aload_0 hO dX7_doneIn_13 ?_
    refine zr_iconst (v := 1) hO dX7_doneIn_14 (by decide) ?_
    refine zr_V1 (D := d) hO hRm hL (by omega) (by decide) (c := 7) (by decide) (zM_0 hM) rfl rfl (e_X7_refuse (d := d - 1) htr hM (by omega)) zl_X7_218 zi_X7_refuse zs_X7_refuse zc_X7_refuse zn_X7 zd_X7_refuse (Nat.le_of_ble_eq_true rfl) dX7_doneIn_15 (by omega) (by omega) ?_
    unfold mP_doneIn at hr
    rw [if_neg (zif_f c10)] at hr
    cases hr
    exact zr_ireturn hO hE dX7_doneIn_18 (fun z9 hz9 => ⟨rfl, by first | exact hz9 | (have := hz9; omega), rfl, rfl, rfl⟩)
set_option maxRecDepth 100000 in
set_option maxHeartbeats 4000000 in
theorem e_X7_doneWith {l : Launch} {G : zGm} {d n o : Nat} {ly : zLy} {τ : zTu} {σ M : zSg} {t r9 u : Int32} {f : Nat} {r : zSg × Int32} (htr : l.stackTraces = false) (hM : zM ly o) (hd : 9 ≤ d) (hW : zmW M) (hon : o + 103 ≤ n) (hz : ∀ a, n ≤ a → (ly a).1 = 0) (hr : mP_doneWith f M t r9 u = some r) :
    zEv l G d 285 2469 (yX7_doneWith, cX7_doneWith, 5, some .int) [.ref o, .int t, .int r9, .int u] (fun x => n ≤ x) ly τ (zwr σ o 103 M) (zPl n ly τ (zwr σ o 103 r.1) (some (.int r.2))) := by
  refine zEv_of (ls := [some (.ref o), some (.int t), some (.int r9), some (.int u), none, none, none, none, none]) htr (by decide) (Nat.le_of_ble_eq_true rfl) rfl (fun X hO hE hN hRm hL hNm => ?_)
  have hO : zOk G X RX7 cX7_doneWith 5 := hO
  have hW0 := zmW_0 hW
  refine zr_aload_0 hO dX7_doneWith_0 ?_
  refine zr_iconst (v := 0) hO dX7_doneWith_1 (by decide) ?_
  refine zg_putfi0 (c := 7) hO (zM_0 hM) (by decide) (by decide) (by decide) zf_X7_120 rfl rfl dX7_doneWith_2 ?_
  refine zr_aload_0 hO dX7_doneWith_5 ?_
  refine zr_iload_1 hO dX7_doneWith_6 ?_
  refine zr_V1 (D := d) hO hRm hL (by omega) (by decide) (c := 7) (by decide) (zM_0 hM) rfl rfl (e_X7_isTask (d := d - 1) htr hM (by omega)) zl_X7_221 zi_X7_isTask zs_X7_isTask zc_X7_isTask zn_X7 zd_X7_isTask (Nat.le_of_ble_eq_true rfl) dX7_doneWith_7 (by omega) (by omega) ?_
  refine zr_ifb_ne (tgt := 19) hO dX7_doneWith_10 (by decide) (fun c10 => ?_) (fun c10 => ?_)
  · refine zr_iload_2 hO dX7_doneWith_19 ?_
    refine zr_iconst (v := 0) hO dX7_doneWith_20 (by decide) ?_
    refine zr_bipush (v := 7) hO dX7_doneWith_21 (by decide) ?_
    refine zr_S3 (D := d) hO hRm hL (by omega) (by decide) rfl (e_X7_is (d := d - 1) htr (by omega)) zl_X7_123 zt_X7_is zc_X7_is zn_X7 zd_X7_is (Nat.le_of_ble_eq_true rfl) dX7_doneWith_23 (by omega) (by omega) ?_
    refine zr_ifb_eq (tgt := 39) hO dX7_doneWith_26 (by decide) (fun c26 => ?_) (fun c26 => ?_)
    · refine zr_aload_0 hO dX7_doneWith_39 ?_
      refine zr_iconst (v := 2) hO dX7_doneWith_40 (by decide) ?_
      refine zr_V1 (D := d) hO hRm hL (by omega) (by decide) (c := 7) (by decide) (zM_0 hM) rfl rfl (e_X7_refuse (d := d - 1) htr hM (by omega)) zl_X7_218 zi_X7_refuse zs_X7_refuse zc_X7_refuse zn_X7 zd_X7_refuse (Nat.le_of_ble_eq_true rfl) dX7_doneWith_41 (by omega) (by omega) ?_
      unfold mP_doneWith at hr
      rw [if_pos c10, if_neg (zif_f c26)] at hr
      cases hr
      exact zr_ireturn hO hE dX7_doneWith_44 (fun z9 hz9 => ⟨rfl, by first | exact hz9 | (have := hz9; omega), rfl, rfl, rfl⟩)
    · refine zr_iload_3 hO dX7_doneWith_29 ?_
      refine zr_iconst (v := 1) hO dX7_doneWith_30 (by decide) ?_
      refine zr_bipush (v := 60) hO dX7_doneWith_31 (by decide) ?_
      refine zr_S3 (D := d) hO hRm hL (by omega) (by decide) rfl (e_X7_is (d := d - 1) htr (by omega)) zl_X7_123 zt_X7_is zc_X7_is zn_X7 zd_X7_is (Nat.le_of_ble_eq_true rfl) dX7_doneWith_33 (by omega) (by omega) ?_
      refine zr_ifb_ne (tgt := 45) hO dX7_doneWith_36 (by decide) (fun c36 => ?_) (fun c36 => ?_)
      · refine zr_aload_0 hO dX7_doneWith_45 ?_
        unfold mP_doneWith at hr
        rw [if_pos c10, if_pos c26, if_pos c36] at hr
        refine z_callV (D := d) (As := []) hO hRm hL (by omega) (by decide) (c := 7) (by decide) (zM_0 hM) rfl rfl (e_X7_copy (d := d - 1) htr hM (by omega) hW0 hon hz) zl_X7_244 zi_X7_copy zs_X7_copy zc_X7_copy zn_X7 zd_X7_copy (Nat.le_of_ble_eq_true rfl) dX7_doneWith_46 (by decide) (by decide) (fun E z ly' τ' σ' h => by obtain ⟨q, h1, _⟩ := h; cases h1) (fun v z ly' τ' σ' h => ?_)
        obtain ⟨q, hv, hq, hqz, hMq, hlo, hhi, hτl, hσ⟩ := h
        replace hqz : q + 103 ≤ z := hqz
        replace hq : n ≤ q := hq
        replace hlo : ∀ a, a < q → ly' a = ly a := hlo
        replace hhi : ∀ a, q + 103 ≤ a → (ly' a).1 = 0 := hhi
        cases hv
        subst hσ
        refine zV_S (S' := fun x => z ≤ x) (fun w hw => by omega) ?_
        have hz2 : ∀ a, z ≤ a → (ly' a).1 = 0 := fun a ha => hhi a (by omega)
        have hWc := zmW_copy hW0
        refine zr_astore_4 hO dX7_doneWith_49 (by decide) rfl ?_
        refine zr_aload_4 hO dX7_doneWith_51 ?_
        refine zr_getfr (c := 7) hO (by decide) (by decide) zf_X7_26 (zM_0 hMq) rfl rfl dX7_doneWith_53 ?_
        refine zr_iload_1 hO dX7_doneWith_56 ?_
        refine zr_iload_2 hO dX7_doneWith_57 ?_
        refine zg_iast hO (zM_3 hMq) (by decide) (zin_task hW0 c10) dX7_doneWith_58 ?_
        refine zr_aload_4 hO dX7_doneWith_59 ?_
        refine zr_iload_1 hO dX7_doneWith_61 ?_
        refine zr_iload_3 hO dX7_doneWith_62 ?_
        have hW3 : zmW (zup (mF_copy (zup M 0 0 0)) 3 (ix t) r9) := zmW_up hWc (f := 3) (show zr1 r9 0 7 from ⟨by have := zis_ge c26; rw [show (0 : Int32).toInt = 0 from rfl] at this; exact this, by have := zis_le c26; rw [show (7 : Int32).toInt = 7 from rfl] at this; exact this⟩)
        rcases hdn : mF_done f t (ix u) 0 (zup (mF_copy (zup M 0 0 0)) 3 (ix t) r9) with _ | v9
        · rw [hdn] at hr; cases hr
        rw [hdn] at hr
        cases hr
        refine z_callS (D := d) (As := [.ref q, .int t, .int u]) hO hRm hL (by omega) (by decide) rfl (e_X7_doneAhead (d := d - 1) htr hMq (by omega) hW3 (zin_task hW0 c10) (by have := zis_ge c36; rw [show (1 : Int32).toInt = 1 from rfl] at this; omega) (by have := zis_le c36; rw [show (60 : Int32).toInt = 60 from rfl] at this; omega) hqz hz2 hdn) zl_X7_248 zt_X7_doneAhead zc_X7_doneAhead zn_X7 zd_X7_doneAhead (Nat.le_of_ble_eq_true rfl) dX7_doneWith_63 (by decide) (by decide) (fun E z ly' τ' σ' h => by cases h.1) (fun v z8 ly8 τ8 σ8 h => ?_)
        obtain ⟨hv8, hz8, rfl, rfl, M8, rfl⟩ := h
        replace hz8 : z ≤ z8 := hz8
        cases hv8
        refine zV_to (ly' := ly) (τ' := τ) (σ' := zwr σ o 103 (zup M 0 0 0)) (z_back hq hz hlo hτl) ?_
        refine zV_S (S' := fun x => n ≤ x) (fun w hw => by omega) ?_
        exact zr_ireturn hO hE dX7_doneWith_66 (fun z9 hz9 => ⟨rfl, hz9, rfl, rfl, rfl⟩)
      · refine zr_aload_0 hO dX7_doneWith_39 ?_
        refine zr_iconst (v := 2) hO dX7_doneWith_40 (by decide) ?_
        refine zr_V1 (D := d) hO hRm hL (by omega) (by decide) (c := 7) (by decide) (zM_0 hM) rfl rfl (e_X7_refuse (d := d - 1) htr hM (by omega)) zl_X7_218 zi_X7_refuse zs_X7_refuse zc_X7_refuse zn_X7 zd_X7_refuse (Nat.le_of_ble_eq_true rfl) dX7_doneWith_41 (by omega) (by omega) ?_
        unfold mP_doneWith at hr
        rw [if_pos c10, if_pos c26, if_neg (zif_f c36)] at hr
        cases hr
        exact zr_ireturn hO hE dX7_doneWith_44 (fun z9 hz9 => ⟨rfl, by first | exact hz9 | (have := hz9; omega), rfl, rfl, rfl⟩)
  · refine zr_aload_0 hO dX7_doneWith_13 ?_
    refine zr_iconst (v := 1) hO dX7_doneWith_14 (by decide) ?_
    refine zr_V1 (D := d) hO hRm hL (by omega) (by decide) (c := 7) (by decide) (zM_0 hM) rfl rfl (e_X7_refuse (d := d - 1) htr hM (by omega)) zl_X7_218 zi_X7_refuse zs_X7_refuse zc_X7_refuse zn_X7 zd_X7_refuse (Nat.le_of_ble_eq_true rfl) dX7_doneWith_15 (by omega) (by omega) ?_
    unfold mP_doneWith at hr
    rw [if_neg (zif_f c10)] at hr
    cases hr
    exact zr_ireturn hO hE dX7_doneWith_18 (fun z9 hz9 => ⟨rfl, by first | exact hz9 | (have := hz9; omega), rfl, rfl, rfl⟩)
set_option maxRecDepth 100000 in
set_option maxHeartbeats 4000000 in
theorem e_X7_idleIn {l : Launch} {G : zGm} {d n o : Nat} {ly : zLy} {τ : zTu} {σ M : zSg} {u : Int32} {f : Nat} {r : zSg × Int32} (htr : l.stackTraces = false) (hM : zM ly o) (hd : 9 ≤ d) (hW : zmW M) (hon : o + 103 ≤ n) (hz : ∀ a, n ≤ a → (ly a).1 = 0) (hr : mP_idleIn f M u = some r) :
    zEv l G d 285 2469 (yX7_idleIn, cX7_idleIn, 4, some .int) [.ref o, .int u] (fun x => n ≤ x) ly τ (zwr σ o 103 M) (zPl n ly τ (zwr σ o 103 r.1) (some (.int r.2))) := by
  refine zEv_of (ls := [some (.ref o), some (.int u), none, none, none, none, none, none, none]) htr (by decide) (Nat.le_of_ble_eq_true rfl) rfl (fun X hO hE hN hRm hL hNm => ?_)
  have hO : zOk G X RX7 cX7_idleIn 4 := hO
  have hW0 := zmW_0 hW
  refine zr_aload_0 hO dX7_idleIn_0 ?_
  refine zr_iconst (v := 0) hO dX7_idleIn_1 (by decide) ?_
  refine zg_putfi0 (c := 7) hO (zM_0 hM) (by decide) (by decide) (by decide) zf_X7_120 rfl rfl dX7_idleIn_2 ?_
  refine zr_iload_1 hO dX7_idleIn_5 ?_
  refine zr_iconst (v := 1) hO dX7_idleIn_6 (by decide) ?_
  refine zr_bipush (v := 60) hO dX7_idleIn_7 (by decide) ?_
  refine zr_S3 (D := d) hO hRm hL (by omega) (by decide) rfl (e_X7_is (d := d - 1) htr (by omega)) zl_X7_123 zt_X7_is zc_X7_is zn_X7 zd_X7_is (Nat.le_of_ble_eq_true rfl) dX7_idleIn_9 (by omega) (by omega) ?_
  refine zV_pc (pc' := 12) rfl ?_
  refine zr_ifb_ne (tgt := 21) hO dX7_idleIn_12 (by decide) (fun c12 => ?_) (fun c12 => ?_)
  · refine zr_aload_0 hO dX7_idleIn_21 ?_
    unfold mP_idleIn at hr
    rw [if_pos c12] at hr
    refine z_callV (D := d) (As := []) hO hRm hL (by omega) (by decide) (c := 7) (by decide) (zM_0 hM) rfl rfl (e_X7_copy (d := d - 1) htr hM (by omega) hW0 hon hz) zl_X7_244 zi_X7_copy zs_X7_copy zc_X7_copy zn_X7 zd_X7_copy (Nat.le_of_ble_eq_true rfl) dX7_idleIn_22 (by decide) (by decide) (fun E z ly' τ' σ' h => by obtain ⟨q, h1, _⟩ := h; cases h1) (fun v z ly' τ' σ' h => ?_)
    obtain ⟨q, hv, hq, hqz, hMq, hlo, hhi, hτl, hσ⟩ := h
    replace hqz : q + 103 ≤ z := hqz
    replace hq : n ≤ q := hq
    replace hlo : ∀ a, a < q → ly' a = ly a := hlo
    replace hhi : ∀ a, q + 103 ≤ a → (ly' a).1 = 0 := hhi
    cases hv
    subst hσ
    refine zV_S (S' := fun x => z ≤ x) (fun w hw => by omega) ?_
    have hz2 : ∀ a, z ≤ a → (ly' a).1 = 0 := fun a ha => hhi a (by omega)
    have hWc := zmW_copy hW0
    have hu0 : 0 ≤ u.toInt := by have := zis_ge c12; rw [show (1 : Int32).toInt = 1 from rfl] at this; omega
    have hu1 : u.toInt ≤ 60 := by have := zis_le c12; rw [show (60 : Int32).toInt = 60 from rfl] at this; exact this
    have hu2 := ztoInt hu0
    refine zr_astore_2 hO dX7_idleIn_25 (by decide) rfl ?_
    have key28 : ∀ (j k : Nat) (M1 : zSg), k + j = ix u → zk (mF_copy (zup M 0 0 0)) M1 → (mF_ticks f j M1).map (fun M2 => (zup M 0 0 0, M2 0 12)) = some r → zV G X 4 (3 * j) (23 * j) (fun x => z ≤ x) ly' τ' (zwr (zwr σ o 103 (zup M 0 0 0)) q 103 M1) 28 [some (.ref o), some (.int u), some (.ref q), some (.int (nI k)), none, none, none, none, none] [] := by
      intro j
      induction j with
      | zero =>
        intro k M1 hk hM1 h
        cases h
        refine zr_iload_3 hO dX7_idleIn_28 ?_
        refine zr_iload_1 hO dX7_idleIn_29 ?_
        refine zr_icmp_ge (tgt := 43) hO dX7_idleIn_30 (by decide) (fun c => ?_) (fun c => absurd c (zjx0 hu0 hk))
        refine zr_aload_2 hO dX7_idleIn_43 ?_
        refine zg_getfi0 (c := 7) hO (zM_0 hMq) (by decide) (by decide) (by decide) zf_X7_209 rfl dX7_idleIn_44 ?_
        refine zV_to (ly' := ly) (τ' := τ) (σ' := zwr σ o 103 (zup M 0 0 0)) (z_back hq hz hlo hτl) ?_
        exact zr_ireturn hO hE dX7_idleIn_47 (fun z9 hz9 => ⟨rfl, by have h9 : z ≤ z9 := hz9; omega, rfl, rfl, rfl⟩)
      | succ j ih =>
        intro k M1 hk hM1 h
        rw [mF_ticks] at h
        rcases htk : mF_tick f M1 with _ | M3
        · rw [htk] at h; cases h
        rw [htk] at h
        refine zr_iload_3 hO dX7_idleIn_28 ?_
        refine zr_iload_1 hO dX7_idleIn_29 ?_
        refine zr_icmp_ge (tgt := 43) hO dX7_idleIn_30 (by decide) (fun c => absurd (zjx hu0 hk (by omega)) c) (fun c30 => ?_)
        refine zr_aload_2 hO dX7_idleIn_33 ?_
        refine zr_V0 (D := d) hO hRm hL (by omega) (by decide) (c := 7) (by decide) (zM_0 hMq) rfl rfl (e_X7_tickOnce (d := d - 1) htr hMq (by omega) (show zk _ M1 from hM1).1 hqz hz2 htk) zl_X7_228 zi_X7_tickOnce zs_X7_tickOnce zc_X7_tickOnce zn_X7 zd_X7_tickOnce (Nat.le_of_ble_eq_true rfl) dX7_idleIn_34 (by omega) (by omega) ?_
        refine zr_iinc_3 (v := 1) hO dX7_idleIn_37 (by decide) (by decide) rfl ?_
        refine zr_goto (tgt := 28) hO dX7_idleIn_40 (by decide) ?_
        rw [nI_1]
        refine zV_b (bc' := 3 * j) (bs' := 23 * j) (by omega) (by omega) ?_
        exact ih (k + 1) M3 (by omega) (zk_tick hM1 htk) h
    refine zr_iconst (v := 0) hO dX7_idleIn_26 (by decide) ?_
    refine zr_istore_3 hO dX7_idleIn_27 (by decide) rfl ?_
    rw [← nI_0]
    refine zV_b (bc' := 3 * ix u) (bs' := 23 * ix u) (by omega) (by omega) ?_
    exact key28 (ix u) 0 _ (by omega) (zk_r hWc) hr
  · refine zr_aload_0 hO dX7_idleIn_15 ?_
    refine zr_iconst (v := 1) hO dX7_idleIn_16 (by decide) ?_
    refine zr_V1 (D := d) hO hRm hL (by omega) (by decide) (c := 7) (by decide) (zM_0 hM) rfl rfl (e_X7_refuse (d := d - 1) htr hM (by omega)) zl_X7_218 zi_X7_refuse zs_X7_refuse zc_X7_refuse zn_X7 zd_X7_refuse (Nat.le_of_ble_eq_true rfl) dX7_idleIn_17 (by omega) (by omega) ?_
    unfold mP_idleIn at hr
    rw [if_neg (zif_f c12)] at hr
    cases hr
    exact zr_ireturn hO hE dX7_idleIn_20 (fun z9 hz9 => ⟨rfl, by first | exact hz9 | (have := hz9; omega), rfl, rfl, rfl⟩)
set_option maxRecDepth 100000 in
set_option maxHeartbeats 4000000 in
theorem e_X7_stuckIn {l : Launch} {G : zGm} {d n o : Nat} {ly : zLy} {τ : zTu} {σ M : zSg} {u : Int32} {f : Nat} {r : zSg × Int32} (htr : l.stackTraces = false) (hM : zM ly o) (hd : 9 ≤ d) (hW : zmW M) (hon : o + 103 ≤ n) (hz : ∀ a, n ≤ a → (ly a).1 = 0) (hr : mP_stuckIn f M u = some r) :
    zEv l G d 285 2469 (yX7_stuckIn, cX7_stuckIn, 4, some .int) [.ref o, .int u] (fun x => n ≤ x) ly τ (zwr σ o 103 M) (zPl n ly τ (zwr σ o 103 r.1) (some (.int r.2))) := by
  refine zEv_of (ls := [some (.ref o), some (.int u), none, none, none, none, none, none, none]) htr (by decide) (Nat.le_of_ble_eq_true rfl) rfl (fun X hO hE hN hRm hL hNm => ?_)
  have hO : zOk G X RX7 cX7_stuckIn 4 := hO
  have hW0 := zmW_0 hW
  refine zr_aload_0 hO dX7_stuckIn_0 ?_
  refine zr_iconst (v := 0) hO dX7_stuckIn_1 (by decide) ?_
  refine zg_putfi0 (c := 7) hO (zM_0 hM) (by decide) (by decide) (by decide) zf_X7_120 rfl rfl dX7_stuckIn_2 ?_
  refine zr_iload_1 hO dX7_stuckIn_5 ?_
  refine zr_iconst (v := 1) hO dX7_stuckIn_6 (by decide) ?_
  refine zr_bipush (v := 60) hO dX7_stuckIn_7 (by decide) ?_
  refine zr_S3 (D := d) hO hRm hL (by omega) (by decide) rfl (e_X7_is (d := d - 1) htr (by omega)) zl_X7_123 zt_X7_is zc_X7_is zn_X7 zd_X7_is (Nat.le_of_ble_eq_true rfl) dX7_stuckIn_9 (by omega) (by omega) ?_
  refine zV_pc (pc' := 12) rfl ?_
  refine zr_ifb_ne (tgt := 21) hO dX7_stuckIn_12 (by decide) (fun c12 => ?_) (fun c12 => ?_)
  · refine zr_aload_0 hO dX7_stuckIn_21 ?_
    unfold mP_stuckIn at hr
    rw [if_pos c12] at hr
    refine z_callV (D := d) (As := []) hO hRm hL (by omega) (by decide) (c := 7) (by decide) (zM_0 hM) rfl rfl (e_X7_copy (d := d - 1) htr hM (by omega) hW0 hon hz) zl_X7_244 zi_X7_copy zs_X7_copy zc_X7_copy zn_X7 zd_X7_copy (Nat.le_of_ble_eq_true rfl) dX7_stuckIn_22 (by decide) (by decide) (fun E z ly' τ' σ' h => by obtain ⟨q, h1, _⟩ := h; cases h1) (fun v z ly' τ' σ' h => ?_)
    obtain ⟨q, hv, hq, hqz, hMq, hlo, hhi, hτl, hσ⟩ := h
    replace hqz : q + 103 ≤ z := hqz
    replace hq : n ≤ q := hq
    replace hlo : ∀ a, a < q → ly' a = ly a := hlo
    replace hhi : ∀ a, q + 103 ≤ a → (ly' a).1 = 0 := hhi
    cases hv
    subst hσ
    refine zV_S (S' := fun x => z ≤ x) (fun w hw => by omega) ?_
    have hz2 : ∀ a, z ≤ a → (ly' a).1 = 0 := fun a ha => hhi a (by omega)
    have hWc := zmW_copy hW0
    have hu0 : 0 ≤ u.toInt := by have := zis_ge c12; rw [show (1 : Int32).toInt = 1 from rfl] at this; omega
    have hu1 : u.toInt ≤ 60 := by have := zis_le c12; rw [show (60 : Int32).toInt = 60 from rfl] at this; exact this
    have hu2 := ztoInt hu0
    refine zr_astore_2 hO dX7_stuckIn_25 (by decide) rfl ?_
    have key28 : ∀ (j k : Nat) (M1 : zSg), k + j = ix u → zk (mF_copy (zup M 0 0 0)) M1 → (mF_stk f j k M1).map (fun v => (zup M 0 0 0, v)) = some r → zV G X 4 (3 * j) (23 * j) (fun x => z ≤ x) ly' τ' (zwr (zwr σ o 103 (zup M 0 0 0)) q 103 M1) 28 [some (.ref o), some (.int u), some (.ref q), some (.int (nI k)), none, none, none, none, none] [] := by
      intro j
      induction j with
      | zero =>
        intro k M1 hk hM1 h
        rw [mF_stk] at h
        by_cases hb : ¬ mF_blk M1 = true
        · rw [if_neg hb] at h; cases h
        replace hb := Decidable.not_not.mp hb
        rw [if_pos hb] at h
        refine zr_iload_3 hO dX7_stuckIn_28 ?_
        refine zr_iload_1 hO dX7_stuckIn_29 ?_
        refine zr_icmp_gt (tgt := 57) hO dX7_stuckIn_30 (by decide) (fun c => absurd c (zjg hu0 hk)) (fun c30 => ?_)
        refine zr_aload_2 hO dX7_stuckIn_33 ?_
        refine zr_V0 (D := d) hO hRm hL (by omega) (by decide) (c := 7) (by decide) (zM_0 hMq) rfl rfl (e_X7_stuckNow (d := d - 1) htr hMq (by omega) hM1.1 (mF_blk_of hb)) zl_X7_240 zi_X7_stuckNow zs_X7_stuckNow zc_X7_stuckNow zn_X7 zd_X7_stuckNow (Nat.le_of_ble_eq_true rfl) dX7_stuckIn_34 (by omega) (by omega) ?_
        refine zr_if_eq (tgt := 42) hO dX7_stuckIn_37 (by decide) (fun c37 => ?_) (fun c37 => ?_)
        · rw [if_pos c37] at h
          cases h
          refine zr_iload_3 hO dX7_stuckIn_42 ?_
          refine zr_iload_1 hO dX7_stuckIn_43 ?_
          refine zr_icmp_ge (tgt := 51) hO dX7_stuckIn_44 (by decide) (fun c => ?_) (fun c => absurd c (zjx0 hu0 hk))
          refine zr_iinc_3 (v := 1) hO dX7_stuckIn_51 (by decide) (by decide) rfl ?_
          refine zr_goto (tgt := 28) hO dX7_stuckIn_54 (by decide) ?_
          rw [nI_1]
          refine zr_iload_3 hO dX7_stuckIn_28 ?_
          refine zr_iload_1 hO dX7_stuckIn_29 ?_
          refine zr_icmp_gt (tgt := 57) hO dX7_stuckIn_30 (by decide) (fun c4 => ?_) (fun c4 => absurd (zjg1 hu0 (by omega) (by omega)) c4)
          refine zr_iconst (v := (-1)) hO dX7_stuckIn_57 (by decide) ?_
          refine zV_to (ly' := ly) (τ' := τ) (σ' := zwr σ o 103 (zup M 0 0 0)) (z_back hq hz hlo hτl) ?_
          exact zr_ireturn hO hE dX7_stuckIn_58 (fun z9 hz9 => ⟨rfl, by have h9 : z ≤ z9 := hz9; omega, rfl, rfl, rfl⟩)
        · rw [if_neg c37] at h
          cases h
          refine zr_iload_3 hO dX7_stuckIn_40 ?_
          refine zV_to (ly' := ly) (τ' := τ) (σ' := zwr σ o 103 (zup M 0 0 0)) (z_back hq hz hlo hτl) ?_
          exact zr_ireturn hO hE dX7_stuckIn_41 (fun z9 hz9 => ⟨rfl, by have h9 : z ≤ z9 := hz9; omega, rfl, rfl, rfl⟩)
      | succ j ih =>
        intro k M1 hk hM1 h
        rw [mF_stk] at h
        by_cases hb : ¬ mF_blk M1 = true
        · rw [if_neg hb] at h; cases h
        replace hb := Decidable.not_not.mp hb
        rw [if_pos hb] at h
        refine zr_iload_3 hO dX7_stuckIn_28 ?_
        refine zr_iload_1 hO dX7_stuckIn_29 ?_
        refine zr_icmp_gt (tgt := 57) hO dX7_stuckIn_30 (by decide) (fun c => absurd c (zjg hu0 hk)) (fun c30 => ?_)
        refine zr_aload_2 hO dX7_stuckIn_33 ?_
        refine zr_V0 (D := d) hO hRm hL (by omega) (by decide) (c := 7) (by decide) (zM_0 hMq) rfl rfl (e_X7_stuckNow (d := d - 1) htr hMq (by omega) hM1.1 (mF_blk_of hb)) zl_X7_240 zi_X7_stuckNow zs_X7_stuckNow zc_X7_stuckNow zn_X7 zd_X7_stuckNow (Nat.le_of_ble_eq_true rfl) dX7_stuckIn_34 (by omega) (by omega) ?_
        refine zr_if_eq (tgt := 42) hO dX7_stuckIn_37 (by decide) (fun c37 => ?_) (fun c37 => ?_)
        · rw [if_pos c37] at h
          rcases htk : mF_tick f M1 with _ | M3
          · rw [htk] at h; cases h
          rw [htk] at h
          refine zr_iload_3 hO dX7_stuckIn_42 ?_
          refine zr_iload_1 hO dX7_stuckIn_43 ?_
          refine zr_icmp_ge (tgt := 51) hO dX7_stuckIn_44 (by decide) (fun c => absurd (zjx hu0 hk (by omega)) c) (fun c44 => ?_)
          refine zr_aload_2 hO dX7_stuckIn_47 ?_
          refine zr_V0 (D := d) hO hRm hL (by omega) (by decide) (c := 7) (by decide) (zM_0 hMq) rfl rfl (e_X7_tickOnce (d := d - 1) htr hMq (by omega) (show zk _ M1 from hM1).1 hqz hz2 htk) zl_X7_228 zi_X7_tickOnce zs_X7_tickOnce zc_X7_tickOnce zn_X7 zd_X7_tickOnce (Nat.le_of_ble_eq_true rfl) dX7_stuckIn_48 (by omega) (by omega) ?_
          refine zr_iinc_3 (v := 1) hO dX7_stuckIn_51 (by decide) (by decide) rfl ?_
          refine zr_goto (tgt := 28) hO dX7_stuckIn_54 (by decide) ?_
          rw [nI_1]
          refine zV_b (bc' := 3 * j) (bs' := 23 * j) (by omega) (by omega) ?_
          exact ih (k + 1) M3 (by omega) (zk_tick hM1 htk) h
        · rw [if_neg c37] at h
          cases h
          refine zr_iload_3 hO dX7_stuckIn_40 ?_
          refine zV_to (ly' := ly) (τ' := τ) (σ' := zwr σ o 103 (zup M 0 0 0)) (z_back hq hz hlo hτl) ?_
          exact zr_ireturn hO hE dX7_stuckIn_41 (fun z9 hz9 => ⟨rfl, by have h9 : z ≤ z9 := hz9; omega, rfl, rfl, rfl⟩)
    refine zr_iconst (v := 0) hO dX7_stuckIn_26 (by decide) ?_
    refine zr_istore_3 hO dX7_stuckIn_27 (by decide) rfl ?_
    rw [← nI_0]
    refine zV_b (bc' := 3 * ix u) (bs' := 23 * ix u) (by omega) (by omega) ?_
    exact key28 (ix u) 0 _ (by omega) (zk_r hWc) hr
  · refine zr_aload_0 hO dX7_stuckIn_15 ?_
    refine zr_iconst (v := 1) hO dX7_stuckIn_16 (by decide) ?_
    refine zr_V1 (D := d) hO hRm hL (by omega) (by decide) (c := 7) (by decide) (zM_0 hM) rfl rfl (e_X7_refuse (d := d - 1) htr hM (by omega)) zl_X7_218 zi_X7_refuse zs_X7_refuse zc_X7_refuse zn_X7 zd_X7_refuse (Nat.le_of_ble_eq_true rfl) dX7_stuckIn_17 (by omega) (by omega) ?_
    unfold mP_stuckIn at hr
    rw [if_neg (zif_f c12)] at hr
    cases hr
    exact zr_ireturn hO hE dX7_stuckIn_20 (fun z9 hz9 => ⟨rfl, by first | exact hz9 | (have := hz9; omega), rfl, rfl, rfl⟩)
set_option maxRecDepth 100000 in
set_option maxHeartbeats 4000000 in
theorem e_X7_load {l : Launch} {G : zGm} {d n o : Nat} {ly : zLy} {τ : zTu} {σ M : zSg}  (htr : l.stackTraces = false) (hM : zM ly o)  :
    zEv l G d 0 0 (yX7_load, cX7_load, 1, some .double) [.ref o] (fun x => n ≤ x) ly τ (zwr σ o 103 M) (zPl n ly τ (zwr σ o 103 (zup M 0 0 0)) (some (.double (mF_load (zup M 0 0 0))))) := by
  refine zEv_of (ls := [some (.ref o), none, none, none, none, none, none, none, none]) htr (by decide) (Nat.le_of_ble_eq_true rfl) rfl (fun X hO hE hN hRm hL hNm => ?_)
  have hO : zOk G X RX7 cX7_load 1 := hO
  refine zr_aload_0 hO dX7_load_0 ?_
  refine zr_iconst (v := 0) hO dX7_load_1 (by decide) ?_
  refine zg_putfi0 (c := 7) hO (zM_0 hM) (by decide) (by decide) (by decide) zf_X7_120 rfl rfl dX7_load_2 ?_
  refine zr_aload_0 hO dX7_load_5 ?_
  refine zg_getfi0 (c := 7) hO (zM_0 hM) (by decide) (by decide) (by decide) zf_X7_215 rfl dX7_load_6 ?_
  refine zr_if_ne (tgt := 16) hO dX7_load_9 (by decide) (fun c => ?_) (fun c => ?_)
  · refine zr_aload_0 hO dX7_load_16 ?_
    refine zg_getfi0 (c := 7) hO (zM_0 hM) (by decide) (by decide) (by decide) zf_X7_212 rfl dX7_load_17 ?_
    refine zr_i2d hO dX7_load_20 ?_
    refine zr_aload_0 hO dX7_load_21 ?_
    refine zg_getfi0 (c := 7) hO (zM_0 hM) (by decide) (by decide) (by decide) zf_X7_215 rfl dX7_load_22 ?_
    refine zr_i2d hO dX7_load_25 ?_
    refine zr_ddiv hO dX7_load_26 (zn64 _ c) ?_
    refine zr_dreturn hO hE dX7_load_27 (fun z hz => ⟨?_, hz, rfl, rfl, rfl⟩)
    rw [mF_load, if_neg c]
  · refine zr_dconst0 hO dX7_load_12 ?_
    refine zr_goto (tgt := 27) hO dX7_load_13 (by decide) ?_
    refine zr_dreturn hO hE dX7_load_27 (fun z hz => ⟨?_, hz, rfl, rfl, rfl⟩)
    rw [mF_load, if_pos c]
set_option maxRecDepth 100000 in
set_option maxHeartbeats 4000000 in
theorem e_X7_add {l : Launch} {G : zGm} {d n o : Nat} {ly : zLy} {τ : zTu} {σ M : zSg} {v : Int32} (htr : l.stackTraces = false) (hM : zM ly o)  :
    zEv l G d 0 0 (yX7_add, cX7_add, 2, none) [.ref o, .int v] (fun x => n ≤ x) ly τ (zwr σ o 103 M) (zPl n ly (zupL τ o 38 (zdg (τ o 38) v)) (zwr σ o 103 M) none) := by
  refine zEv_of (ls := [some (.ref o), some (.int v), none, none, none, none, none, none, none]) htr (by decide) (Nat.le_of_ble_eq_true rfl) rfl (fun X hO hE hN hRm hL hNm => ?_)
  have hO : zOk G X RX7 cX7_add 2 := hO
  refine zr_aload_0 hO dX7_add_0 ?_
  refine zr_aload_0 hO dX7_add_1 ?_
  refine zr_getfl (c := 7) hO (by decide) (by decide) zf_X7_252 (zM_0 hM) rfl dX7_add_2 ?_
  refine zr_ldc2 hO zlc_X7_256 rfl dX7_add_5 ?_
  refine zr_lmul hO dX7_add_8 ?_
  refine zr_iload_1 hO dX7_add_9 ?_
  refine zr_i2l hO dX7_add_10 ?_
  refine zr_ladd hO dX7_add_11 ?_
  refine zr_putfl (c := 7) hO (by decide) (by decide) zf_X7_252 (zM_0 hM) rfl rfl dX7_add_12 ?_
  exact zr_return hO hE dX7_add_15 (fun z hz => ⟨rfl, hz, rfl, rfl, rfl⟩)
