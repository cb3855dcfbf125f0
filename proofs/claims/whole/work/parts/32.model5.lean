set_option maxRecDepth 100000 in
set_option maxHeartbeats 4000000 in
theorem e_X7_tick {l : Launch} {G : zGm} {d n o : Nat} {ly : zLy} {τ : zTu} {σ M : zSg} {t : Int32} {f : Nat} {r : zSg × Int32} (htr : l.stackTraces = false) (hM : zM ly o) (hd : 8 ≤ d) (hW : zmW M) (hon : o + 103 ≤ n) (hz : ∀ a, n ≤ a → (ly a).1 = 0) (hr : mP_tick f M t = some r) :
    zEv l G d 120 920 (yX7_tick, cX7_tick, 3, some .int) [.ref o, .int t] (fun x => n ≤ x) ly τ (zwr σ o 103 M) (zPl n ly τ (zwr σ o 103 r.1) (some (.int r.2))) := by
  refine zEv_of (ls := [some (.ref o), some (.int t), none, none, none, none, none, none, none]) htr (by decide) (Nat.le_of_ble_eq_true rfl) rfl (fun X hO hE hN hRm hL hNm => ?_)
  have hO : zOk G X RX7 cX7_tick 3 := hO
  have hW0 := zmW_0 hW
  have key23 : ∀ (j k : Nat) (M1 : zSg), mF_is t 1 40 = true → k + j = ix t → zk (zup M 0 0 0) M1 → (mF_ticks f j M1).map (fun M2 => (M2, M2 0 1)) = some r → zV G X 3 (3 * j) (23 * j) (fun x => n ≤ x) ly τ (zwr σ o 103 M1) 23 [some (.ref o), some (.int t), some (.int (nI k)), none, none, none, none, none, none] [] := by
    intro j
    induction j with
    | zero =>
      intro k M1 h1 hk hM1 h
      have ht0 : 0 ≤ t.toInt := by have := zis_ge h1; rw [show (1 : Int32).toInt = 1 from rfl] at this; omega
      cases h
      refine zr_iload_2 hO dX7_tick_23 ?_
      refine zr_iload_1 hO dX7_tick_24 ?_
      refine zr_icmp_ge (tgt := 38) hO dX7_tick_25 (by decide) (fun c25 => ?_) (fun c25 => ?_)
      · refine zr_aload_0 hO dX7_tick_38 ?_
        refine zg_getfi0 (c := 7) hO (zM_0 hM) (by decide) (by decide) (by decide) zf_X7_95 rfl dX7_tick_39 ?_
        exact zr_ireturn hO hE dX7_tick_42 (zpl_i rfl rfl)
      · exact absurd c25 (zjx0 ht0 hk)
    | succ j ih =>
      intro k M1 h1 hk hM1 h
      have ht0 : 0 ≤ t.toInt := by have := zis_ge h1; rw [show (1 : Int32).toInt = 1 from rfl] at this; omega
      rw [mF_ticks] at h
      rcases htk : mF_tick f M1 with _ | M3
      · rw [htk] at h; cases h
      rw [htk] at h
      refine zr_iload_2 hO dX7_tick_23 ?_
      refine zr_iload_1 hO dX7_tick_24 ?_
      refine zr_icmp_ge (tgt := 38) hO dX7_tick_25 (by decide) (fun c25 => ?_) (fun c25 => ?_)
      · exact absurd (zjx ht0 hk (by omega)) c25
      · refine zr_aload_0 hO dX7_tick_28 ?_
        refine zr_V0 (D := d) hO hRm hL (by omega) (by decide) (c := 7) (by decide) (zM_0 hM) rfl rfl (e_X7_tickOnce (d := d - 1) htr hM (by omega) hM1.1 hon hz htk) zl_X7_228 zi_X7_tickOnce zs_X7_tickOnce zc_X7_tickOnce zn_X7 zd_X7_tickOnce (Nat.le_of_ble_eq_true rfl) dX7_tick_29 (by omega) (by omega) ?_
        refine zr_iinc_2 (v := 1) hO dX7_tick_32 (by decide) (by decide) rfl ?_
        refine zr_goto (tgt := 23) hO dX7_tick_35 (by decide) ?_
        rw [nI_1]
        refine zV_b (bc' := 3 * j) (bs' := 23 * j) (by omega) (by omega) ?_
        exact ih (k + 1) M3 h1 (by omega) (zk_tick hM1 htk) h
  unfold mP_tick at hr
  refine zr_aload_0 hO dX7_tick_0 ?_
  refine zr_iconst (v := 0) hO dX7_tick_1 (by decide) ?_
  refine zg_putfi0 (c := 7) hO (zM_0 hM) (by decide) (by decide) (by decide) zf_X7_120 rfl rfl dX7_tick_2 ?_
  refine zr_iload_1 hO dX7_tick_5 ?_
  refine zr_iconst (v := 1) hO dX7_tick_6 (by decide) ?_
  refine zr_bipush (v := 40) hO dX7_tick_7 (by decide) ?_
  refine zr_S3 (D := d) hO hRm hL (by omega) (by decide) rfl (e_X7_is (d := d - 1) htr (by omega)) zl_X7_123 zt_X7_is zc_X7_is zn_X7 zd_X7_is (Nat.le_of_ble_eq_true rfl) dX7_tick_9 (by omega) (by omega) ?_
  refine zV_pc (pc' := 12) rfl ?_
  refine zr_ifb_ne (tgt := 21) hO dX7_tick_12 (by decide) (fun c12 => ?_) (fun c12 => ?_)
  · refine zr_iconst (v := 0) hO dX7_tick_21 (by decide) ?_
    refine zr_istore_2 hO dX7_tick_22 (by decide) rfl ?_
    rw [if_pos c12] at hr
    rw [← nI_0]
    have ht40 : t.toInt ≤ 40 := by have := zis_le c12; rw [show (40 : Int32).toInt = 40 from rfl] at this; omega
    have ht41 := ztoInt (x := t) (by have := zis_ge c12; rw [show (1 : Int32).toInt = 1 from rfl] at this; omega)
    refine zV_b (bc' := 3 * ix t) (bs' := 23 * ix t) (by omega) (by omega) ?_
    exact key23 (ix t) 0 _ c12 (by omega) (zk_r hW0) hr
  · refine zr_aload_0 hO dX7_tick_15 ?_
    refine zr_iconst (v := 1) hO dX7_tick_16 (by decide) ?_
    refine zr_V1 (D := d) hO hRm hL (by omega) (by decide) (c := 7) (by decide) (zM_0 hM) rfl rfl (e_X7_refuse (d := d - 1) htr hM (by omega)) zl_X7_218 zi_X7_refuse zs_X7_refuse zc_X7_refuse zn_X7 zd_X7_refuse (Nat.le_of_ble_eq_true rfl) dX7_tick_17 (by omega) (by omega) ?_
    rw [if_neg (zif_f c12)] at hr
    cases hr
    exact zr_ireturn hO hE dX7_tick_20 (zpl_i rfl rfl)
set_option maxRecDepth 100000 in
set_option maxHeartbeats 4000000 in
theorem e_X7_doneAhead {l : Launch} {G : zGm} {d n o : Nat} {ly : zLy} {τ : zTu} {σ M : zSg} {t u r : Int32} {f : Nat} (htr : l.stackTraces = false) (hM : zM ly o) (hd : 8 ≤ d) (hW : zmW M) (ht : vp_in t 16) (hu0 : 0 ≤ u.toInt) (hu1 : u.toInt ≤ 60) (hon : o + 103 ≤ n) (hz : ∀ a, n ≤ a → (ly a).1 = 0) (hr : mF_done f t (ix u) 0 M = some r) :
    zEv l G d 180 1380 (yX7_doneAhead, cX7_doneAhead, 4, some .int) [.ref o, .int t, .int u] (fun x => n ≤ x) ly τ (zwr σ o 103 M) (fun r9 z ly' τ' σ' => r9 = .inl (some (.int r)) ∧ n ≤ z ∧ ly' = ly ∧ τ' = τ ∧ ∃ M2, σ' = zwr σ o 103 M2) := by
  refine zEv_of (ls := [some (.ref o), some (.int t), some (.int u), none, none, none, none, none, none]) htr (by decide) (Nat.le_of_ble_eq_true rfl) rfl (fun X hO hE hN hRm hL hNm => ?_)
  have hO : zOk G X RX7 cX7_doneAhead 4 := hO
  have key2 : ∀ (j k : Nat) (M1 : zSg), k + j = ix u → zk M M1 → mF_done f t j k M1 = some r → zV G X 4 (3 * j) (23 * j) (fun x => n ≤ x) ly τ (zwr σ o 103 M1) 2 [some (.ref o), some (.int t), some (.int u), some (.int (nI k)), none, none, none, none, none] [] := by
    intro j
    induction j with
    | zero =>
      intro k M1 hk hM1 h
      rw [mF_done] at h
      refine zr_iload_3 hO dX7_doneAhead_2 ?_
      refine zr_iload_2 hO dX7_doneAhead_3 ?_
      refine zr_icmp_gt (tgt := 35) hO dX7_doneAhead_4 (by decide) (fun c4 => ?_) (fun c4 => ?_)
      · exact absurd c4 (zjg hu0 hk)
      · refine zr_aload_0 hO dX7_doneAhead_7 ?_
        refine zr_getfr (c := 7) hO (by decide) (by decide) zf_X7_46 (zM_0 hM) rfl rfl dX7_doneAhead_8 ?_
        refine zr_iload_1 hO dX7_doneAhead_11 ?_
        refine zg_iald hO (zM_41 hM) (by decide) (by first | assumption | exact ht) dX7_doneAhead_12 ?_
        refine zr_bipush (v := 6) hO dX7_doneAhead_13 (by decide) ?_
        refine zr_icmp_ne (tgt := 20) hO dX7_doneAhead_15 (by decide) (fun c15 => ?_) (fun c15 => ?_)
        · refine zr_iload_3 hO dX7_doneAhead_20 ?_
          refine zr_iload_2 hO dX7_doneAhead_21 ?_
          refine zr_icmp_ge (tgt := 29) hO dX7_doneAhead_22 (by decide) (fun c22 => ?_) (fun c22 => ?_)
          · refine zr_iinc_3 (v := 1) hO dX7_doneAhead_29 (by decide) (by decide) rfl ?_
            refine zr_goto (tgt := 2) hO dX7_doneAhead_32 (by decide) ?_
            rw [nI_1]
            refine zr_iload_3 hO dX7_doneAhead_2 ?_
            refine zr_iload_2 hO dX7_doneAhead_3 ?_
            refine zr_icmp_gt (tgt := 35) hO dX7_doneAhead_4 (by decide) (fun c4 => ?_) (fun c4 => absurd (zjg1 hu0 (by omega) (by omega)) c4)
            rw [if_neg c15] at h
            cases h
            refine zr_iconst (v := (-1)) hO dX7_doneAhead_35 (by decide) ?_
            exact zr_ireturn hO hE dX7_doneAhead_36 (fun z hz9 => ⟨rfl, hz9, rfl, rfl, _, rfl⟩)
          · exact absurd c22 (zjx0 hu0 hk)
        · refine zr_iload_3 hO dX7_doneAhead_18 ?_
          rw [if_pos c15] at h
          cases h
          exact zr_ireturn hO hE dX7_doneAhead_19 (fun z hz9 => ⟨rfl, hz9, rfl, rfl, _, rfl⟩)
    | succ j ih =>
      intro k M1 hk hM1 h
      rw [mF_done] at h
      refine zr_iload_3 hO dX7_doneAhead_2 ?_
      refine zr_iload_2 hO dX7_doneAhead_3 ?_
      refine zr_icmp_gt (tgt := 35) hO dX7_doneAhead_4 (by decide) (fun c4 => ?_) (fun c4 => ?_)
      · exact absurd c4 (zjg hu0 hk)
      · refine zr_aload_0 hO dX7_doneAhead_7 ?_
        refine zr_getfr (c := 7) hO (by decide) (by decide) zf_X7_46 (zM_0 hM) rfl rfl dX7_doneAhead_8 ?_
        refine zr_iload_1 hO dX7_doneAhead_11 ?_
        refine zg_iald hO (zM_41 hM) (by decide) (by first | assumption | exact ht) dX7_doneAhead_12 ?_
        refine zr_bipush (v := 6) hO dX7_doneAhead_13 (by decide) ?_
        refine zr_icmp_ne (tgt := 20) hO dX7_doneAhead_15 (by decide) (fun c15 => ?_) (fun c15 => ?_)
        · rw [if_neg c15] at h
          rcases htk : mF_tick f M1 with _ | M3
          · rw [htk] at h; cases h
          rw [htk] at h
          refine zr_iload_3 hO dX7_doneAhead_20 ?_
          refine zr_iload_2 hO dX7_doneAhead_21 ?_
          refine zr_icmp_ge (tgt := 29) hO dX7_doneAhead_22 (by decide) (fun c22 => ?_) (fun c22 => ?_)
          · exact absurd (zjx hu0 hk (by omega)) c22
          · refine zr_aload_0 hO dX7_doneAhead_25 ?_
            refine zr_V0 (D := d) hO hRm hL (by omega) (by decide) (c := 7) (by decide) (zM_0 hM) rfl rfl (e_X7_tickOnce (d := d - 1) htr hM (by omega) hM1.1 hon hz htk) zl_X7_228 zi_X7_tickOnce zs_X7_tickOnce zc_X7_tickOnce zn_X7 zd_X7_tickOnce (Nat.le_of_ble_eq_true rfl) dX7_doneAhead_26 (by omega) (by omega) ?_
            refine zr_iinc_3 (v := 1) hO dX7_doneAhead_29 (by decide) (by decide) rfl ?_
            refine zr_goto (tgt := 2) hO dX7_doneAhead_32 (by decide) ?_
            rw [nI_1]
            refine zV_b (bc' := 3 * j) (bs' := 23 * j) (by omega) (by omega) ?_
            exact ih (k + 1) M3 (by omega) (zk_tick hM1 htk) h
        · refine zr_iload_3 hO dX7_doneAhead_18 ?_
          rw [if_pos c15] at h
          cases h
          exact zr_ireturn hO hE dX7_doneAhead_19 (fun z hz9 => ⟨rfl, hz9, rfl, rfl, _, rfl⟩)
  have hu2 := ztoInt hu0
  refine zr_iconst (v := 0) hO dX7_doneAhead_0 (by decide) ?_
  refine zr_istore_3 hO dX7_doneAhead_1 (by decide) rfl ?_
  rw [← nI_0]
  refine zV_b (bc' := 3 * ix u) (bs' := 23 * ix u) (by omega) (by omega) ?_
  exact key2 (ix u) 0 M (by omega) (zk_r hW) hr
