set_option maxRecDepth 100000 in
set_option maxHeartbeats 400000 in
theorem e_X6_requireArgument0 {l : Launch} {G : zGm} {d n : Nat} {ly : zLy} {τ : zTu} {σ : zSg}  (htr : l.stackTraces = false) (hd : 6 ≤ d)  : zEv l G d 1 6 (yX6_requireArgument, cX6_requireArgument, 1, none) [.int 0] (fun x => n ≤ x) ly τ σ (zPt n ly τ σ eIA) := by
  refine zEv_of (ls := [some (.int 0), none, none, none, none, none, none, none, none]) htr (by decide) (Nat.le_of_ble_eq_true rfl) rfl (fun X hO hE hN hRm hL hNm => ?_)
  have hO : zOk G X RX6 cX6_requireArgument 1 := hO
  refine zr_iload_0 hO dX6_requireArgument_0 ?_
  refine zr_if_ne (tgt := 15) hO dX6_requireArgument_1 (by decide) (fun c1 => ?_) (fun c1 => ?_)
  · exact absurd (by decide) c1
  · exact zr_throwW (D := d) hO hE hN (by omega) hRm zXw_arg (by decide +kernel) (by decide : 290 ∈ zStrs) (Nat.le_of_ble_eq_true rfl) (by omega) (by omega) dX6_requireArgument_4 dX6_requireArgument_7 dX6_requireArgument_8 dX6_requireArgument_11 dX6_requireArgument_14 (fun z8 z9 hz8 hz9 => ⟨rfl, (Nat.le_trans hz8 hz9), rfl, rfl, rfl⟩)
set_option maxRecDepth 100000 in
set_option maxHeartbeats 400000 in
theorem e_X6_requireArgument1 {l : Launch} {G : zGm} {d n : Nat} {ly : zLy} {τ : zTu} {σ : zSg}  (htr : l.stackTraces = false) (hd : 6 ≤ d)  : zEv l G d 0 0 (yX6_requireArgument, cX6_requireArgument, 1, none) [.int 1] (fun x => n ≤ x) ly τ σ (zPl n ly τ σ none) := by
  refine zEv_of (ls := [some (.int 1), none, none, none, none, none, none, none, none]) htr (by decide) (Nat.le_of_ble_eq_true rfl) rfl (fun X hO hE hN hRm hL hNm => ?_)
  have hO : zOk G X RX6 cX6_requireArgument 1 := hO
  refine zr_iload_0 hO dX6_requireArgument_0 ?_
  refine zr_if_ne (tgt := 15) hO dX6_requireArgument_1 (by decide) (fun c1 => ?_) (fun c1 => ?_)
  · exact zr_return hO hE dX6_requireArgument_15 (fun z9 hz9 => ⟨rfl, hz9, rfl, rfl, rfl⟩)
  · exact absurd c1 (by decide)
set_option maxRecDepth 100000 in
set_option maxHeartbeats 400000 in
theorem e_X6_requireState0 {l : Launch} {G : zGm} {d n : Nat} {ly : zLy} {τ : zTu} {σ : zSg}  (htr : l.stackTraces = false) (hd : 6 ≤ d)  : zEv l G d 1 6 (yX6_requireState, cX6_requireState, 1, none) [.int 0] (fun x => n ≤ x) ly τ σ (zPt n ly τ σ eIS) := by
  refine zEv_of (ls := [some (.int 0), none, none, none, none, none, none, none, none]) htr (by decide) (Nat.le_of_ble_eq_true rfl) rfl (fun X hO hE hN hRm hL hNm => ?_)
  have hO : zOk G X RX6 cX6_requireState 1 := hO
  refine zr_iload_0 hO dX6_requireState_0 ?_
  refine zr_if_ne (tgt := 15) hO dX6_requireState_1 (by decide) (fun c1 => ?_) (fun c1 => ?_)
  · exact absurd (by decide) c1
  · exact zr_throwW (D := d) hO hE hN (by omega) hRm zXw_st (by decide +kernel) (by decide : 293 ∈ zStrs) (Nat.le_of_ble_eq_true rfl) (by omega) (by omega) dX6_requireState_4 dX6_requireState_7 dX6_requireState_8 dX6_requireState_11 dX6_requireState_14 (fun z8 z9 hz8 hz9 => ⟨rfl, (Nat.le_trans hz8 hz9), rfl, rfl, rfl⟩)
set_option maxRecDepth 100000 in
set_option maxHeartbeats 400000 in
theorem e_X6_requireState1 {l : Launch} {G : zGm} {d n : Nat} {ly : zLy} {τ : zTu} {σ : zSg}  (htr : l.stackTraces = false) (hd : 6 ≤ d)  : zEv l G d 0 0 (yX6_requireState, cX6_requireState, 1, none) [.int 1] (fun x => n ≤ x) ly τ σ (zPl n ly τ σ none) := by
  refine zEv_of (ls := [some (.int 1), none, none, none, none, none, none, none, none]) htr (by decide) (Nat.le_of_ble_eq_true rfl) rfl (fun X hO hE hN hRm hL hNm => ?_)
  have hO : zOk G X RX6 cX6_requireState 1 := hO
  refine zr_iload_0 hO dX6_requireState_0 ?_
  refine zr_if_ne (tgt := 15) hO dX6_requireState_1 (by decide) (fun c1 => ?_) (fun c1 => ?_)
  · exact zr_return hO hE dX6_requireState_15 (fun z9 hz9 => ⟨rfl, hz9, rfl, rfl, rfl⟩)
  · exact absurd c1 (by decide)
set_option maxRecDepth 100000 in
set_option maxHeartbeats 400000 in
theorem e_X6_requireLock_ok {l : Launch} {G : zGm} {d n : Nat} {ly : zLy} {τ : zTu} {σ : zSg} {t : Int32} (htr : l.stackTraces = false) (hd : 6 ≤ d) (hq : cR_lock t = none) : zEv l G d 0 0 (yX6_requireLock, cX6_requireLock, 1, none) [.int t] (fun x => n ≤ x) ly τ σ (zPl n ly τ σ none) := by
  refine zEv_of (ls := [some (.int t), none, none, none, none, none, none, none, none]) htr (by decide) (Nat.le_of_ble_eq_true rfl) rfl (fun X hO hE hN hRm hL hNm => ?_)
  have hO : zOk G X RX6 cX6_requireLock 1 := hO
  refine zr_iload_0 hO dX6_requireLock_0 ?_
  refine zr_if_lt (tgt := 10) hO dX6_requireLock_1 (by decide) (fun c1 => ?_) (fun c1 => ?_)
  · exfalso
    simp only [cR_lock, if_pos c1] at hq
    cases hq
  · refine zr_iload_0 hO dX6_requireLock_4 ?_
    refine zr_bipush (v := 6) hO dX6_requireLock_5 (by decide) ?_
    refine zr_icmp_lt (tgt := 21) hO dX6_requireLock_7 (by decide) (fun c7 => ?_) (fun c7 => ?_)
    · exact zr_return hO hE dX6_requireLock_21 (fun z9 hz9 => ⟨rfl, hz9, rfl, rfl, rfl⟩)
    · exfalso
      simp only [cR_lock, if_neg c1, if_neg c7] at hq
      cases hq
set_option maxRecDepth 100000 in
set_option maxHeartbeats 400000 in
theorem e_X6_requireLock_x {l : Launch} {G : zGm} {d n : Nat} {ly : zLy} {τ : zTu} {σ : zSg} {t : Int32} {E : String} (htr : l.stackTraces = false) (hd : 6 ≤ d) (hq : cR_lock t = some E) : zEv l G d 1 6 (yX6_requireLock, cX6_requireLock, 1, none) [.int t] (fun x => n ≤ x) ly τ σ (zPt n ly τ σ E) := by
  refine zEv_of (ls := [some (.int t), none, none, none, none, none, none, none, none]) htr (by decide) (Nat.le_of_ble_eq_true rfl) rfl (fun X hO hE hN hRm hL hNm => ?_)
  have hO : zOk G X RX6 cX6_requireLock 1 := hO
  refine zr_iload_0 hO dX6_requireLock_0 ?_
  refine zr_if_lt (tgt := 10) hO dX6_requireLock_1 (by decide) (fun c1 => ?_) (fun c1 => ?_)
  · simp only [cR_lock, if_pos c1] at hq
    cases hq
    exact zr_throwW (D := d) hO hE hN (by omega) hRm zXw_ix (by decide +kernel) (by decide : 295 ∈ zStrs) (Nat.le_of_ble_eq_true rfl) (by omega) (by omega) dX6_requireLock_10 dX6_requireLock_13 dX6_requireLock_14 dX6_requireLock_17 dX6_requireLock_20 (fun z8 z9 hz8 hz9 => ⟨rfl, (Nat.le_trans hz8 hz9), rfl, rfl, rfl⟩)
  · refine zr_iload_0 hO dX6_requireLock_4 ?_
    refine zr_bipush (v := 6) hO dX6_requireLock_5 (by decide) ?_
    refine zr_icmp_lt (tgt := 21) hO dX6_requireLock_7 (by decide) (fun c7 => ?_) (fun c7 => ?_)
    · exfalso
      simp only [cR_lock, if_neg c1, if_pos c7] at hq
      cases hq
    · simp only [cR_lock, if_neg c1, if_neg c7] at hq
      cases hq
      exact zr_throwW (D := d) hO hE hN (by omega) hRm zXw_ix (by decide +kernel) (by decide : 295 ∈ zStrs) (Nat.le_of_ble_eq_true rfl) (by omega) (by omega) dX6_requireLock_10 dX6_requireLock_13 dX6_requireLock_14 dX6_requireLock_17 dX6_requireLock_20 (fun z8 z9 hz8 hz9 => ⟨rfl, (Nat.le_trans hz8 hz9), rfl, rfl, rfl⟩)
set_option maxRecDepth 100000 in
set_option maxHeartbeats 400000 in
theorem e_X6_requireEvent_ok {l : Launch} {G : zGm} {d n : Nat} {ly : zLy} {τ : zTu} {σ : zSg} {t : Int32} (htr : l.stackTraces = false) (hd : 6 ≤ d) (hq : cR_lock t = none) : zEv l G d 0 0 (yX6_requireEvent, cX6_requireEvent, 1, none) [.int t] (fun x => n ≤ x) ly τ σ (zPl n ly τ σ none) := by
  refine zEv_of (ls := [some (.int t), none, none, none, none, none, none, none, none]) htr (by decide) (Nat.le_of_ble_eq_true rfl) rfl (fun X hO hE hN hRm hL hNm => ?_)
  have hO : zOk G X RX6 cX6_requireEvent 1 := hO
  refine zr_iload_0 hO dX6_requireEvent_0 ?_
  refine zr_if_lt (tgt := 10) hO dX6_requireEvent_1 (by decide) (fun c1 => ?_) (fun c1 => ?_)
  · exfalso
    simp only [cR_lock, if_pos c1] at hq
    cases hq
  · refine zr_iload_0 hO dX6_requireEvent_4 ?_
    refine zr_bipush (v := 6) hO dX6_requireEvent_5 (by decide) ?_
    refine zr_icmp_lt (tgt := 21) hO dX6_requireEvent_7 (by decide) (fun c7 => ?_) (fun c7 => ?_)
    · exact zr_return hO hE dX6_requireEvent_21 (fun z9 hz9 => ⟨rfl, hz9, rfl, rfl, rfl⟩)
    · exfalso
      simp only [cR_lock, if_neg c1, if_neg c7] at hq
      cases hq
set_option maxRecDepth 100000 in
set_option maxHeartbeats 400000 in
theorem e_X6_requireEvent_x {l : Launch} {G : zGm} {d n : Nat} {ly : zLy} {τ : zTu} {σ : zSg} {t : Int32} {E : String} (htr : l.stackTraces = false) (hd : 6 ≤ d) (hq : cR_lock t = some E) : zEv l G d 1 6 (yX6_requireEvent, cX6_requireEvent, 1, none) [.int t] (fun x => n ≤ x) ly τ σ (zPt n ly τ σ E) := by
  refine zEv_of (ls := [some (.int t), none, none, none, none, none, none, none, none]) htr (by decide) (Nat.le_of_ble_eq_true rfl) rfl (fun X hO hE hN hRm hL hNm => ?_)
  have hO : zOk G X RX6 cX6_requireEvent 1 := hO
  refine zr_iload_0 hO dX6_requireEvent_0 ?_
  refine zr_if_lt (tgt := 10) hO dX6_requireEvent_1 (by decide) (fun c1 => ?_) (fun c1 => ?_)
  · simp only [cR_lock, if_pos c1] at hq
    cases hq
    exact zr_throwW (D := d) hO hE hN (by omega) hRm zXw_ix (by decide +kernel) (by decide : 297 ∈ zStrs) (Nat.le_of_ble_eq_true rfl) (by omega) (by omega) dX6_requireEvent_10 dX6_requireEvent_13 dX6_requireEvent_14 dX6_requireEvent_17 dX6_requireEvent_20 (fun z8 z9 hz8 hz9 => ⟨rfl, (Nat.le_trans hz8 hz9), rfl, rfl, rfl⟩)
  · refine zr_iload_0 hO dX6_requireEvent_4 ?_
    refine zr_bipush (v := 6) hO dX6_requireEvent_5 (by decide) ?_
    refine zr_icmp_lt (tgt := 21) hO dX6_requireEvent_7 (by decide) (fun c7 => ?_) (fun c7 => ?_)
    · exfalso
      simp only [cR_lock, if_neg c1, if_pos c7] at hq
      cases hq
    · simp only [cR_lock, if_neg c1, if_neg c7] at hq
      cases hq
      exact zr_throwW (D := d) hO hE hN (by omega) hRm zXw_ix (by decide +kernel) (by decide : 297 ∈ zStrs) (Nat.le_of_ble_eq_true rfl) (by omega) (by omega) dX6_requireEvent_10 dX6_requireEvent_13 dX6_requireEvent_14 dX6_requireEvent_17 dX6_requireEvent_20 (fun z8 z9 hz8 hz9 => ⟨rfl, (Nat.le_trans hz8 hz9), rfl, rfl, rfl⟩)
set_option maxRecDepth 100000 in
set_option maxHeartbeats 400000 in
theorem e_X6_requireTicksTried_ok {l : Launch} {G : zGm} {d n : Nat} {ly : zLy} {τ : zTu} {σ : zSg} {t : Int32} (htr : l.stackTraces = false) (hd : 7 ≤ d) (hq : cR_tried t = none) : zEv l G d 0 0 (yX6_requireTicksTried, cX6_requireTicksTried, 1, none) [.int t] (fun x => n ≤ x) ly τ σ (zPl n ly τ σ none) := by
  refine zEv_of (ls := [some (.int t), none, none, none, none, none, none, none, none]) htr (by decide) (Nat.le_of_ble_eq_true rfl) rfl (fun X hO hE hN hRm hL hNm => ?_)
  have hO : zOk G X RX6 cX6_requireTicksTried 1 := hO
  refine zr_iload_0 hO dX6_requireTicksTried_0 ?_
  refine zr_iconst (v := 1) hO dX6_requireTicksTried_1 (by decide) ?_
  refine zr_icmp_lt (tgt := 15) hO dX6_requireTicksTried_2 (by decide) (fun c2 => ?_) (fun c2 => ?_)
  · refine zr_iconst (v := 0) hO dX6_requireTicksTried_15 (by decide) ?_
    exfalso
    simp only [cR_tried, if_pos c2] at hq
    cases hq
  · refine zr_iload_0 hO dX6_requireTicksTried_5 ?_
    refine zr_bipush (v := 60) hO dX6_requireTicksTried_6 (by decide) ?_
    refine zr_icmp_gt (tgt := 15) hO dX6_requireTicksTried_8 (by decide) (fun c8 => ?_) (fun c8 => ?_)
    · refine zr_iconst (v := 0) hO dX6_requireTicksTried_15 (by decide) ?_
      exfalso
      simp only [cR_tried, if_neg c2, if_pos c8] at hq
      cases hq
    · refine zr_iconst (v := 1) hO dX6_requireTicksTried_11 (by decide) ?_
      refine zr_goto (tgt := 16) hO dX6_requireTicksTried_12 (by decide) ?_
      refine zr_S1 (D := d) hO hRm hL (by omega) (by decide) rfl (e_X6_requireArgument1 (d := d - 1) htr (by omega)) zl_X6_19 zt_X6_requireArgument zc_X6_requireArgument zn_X6 zd_X6_requireArgument (Nat.le_of_ble_eq_true rfl) dX6_requireTicksTried_16 (by omega) (by omega) ?_
      exact zr_return hO hE dX6_requireTicksTried_19 (fun z9 hz9 => ⟨rfl, hz9, rfl, rfl, rfl⟩)
set_option maxRecDepth 100000 in
set_option maxHeartbeats 400000 in
theorem e_X6_requireTicksTried_x {l : Launch} {G : zGm} {d n : Nat} {ly : zLy} {τ : zTu} {σ : zSg} {t : Int32} {E : String} (htr : l.stackTraces = false) (hd : 7 ≤ d) (hq : cR_tried t = some E) : zEv l G d 1 6 (yX6_requireTicksTried, cX6_requireTicksTried, 1, none) [.int t] (fun x => n ≤ x) ly τ σ (zPt n ly τ σ E) := by
  refine zEv_of (ls := [some (.int t), none, none, none, none, none, none, none, none]) htr (by decide) (Nat.le_of_ble_eq_true rfl) rfl (fun X hO hE hN hRm hL hNm => ?_)
  have hO : zOk G X RX6 cX6_requireTicksTried 1 := hO
  refine zr_iload_0 hO dX6_requireTicksTried_0 ?_
  refine zr_iconst (v := 1) hO dX6_requireTicksTried_1 (by decide) ?_
  refine zr_icmp_lt (tgt := 15) hO dX6_requireTicksTried_2 (by decide) (fun c2 => ?_) (fun c2 => ?_)
  · refine zr_iconst (v := 0) hO dX6_requireTicksTried_15 (by decide) ?_
    simp only [cR_tried, if_pos c2] at hq
    cases hq
    refine zr_ST1 (D := d) hO hRm hL (by omega) (by decide) rfl (e_X6_requireArgument0 (d := d - 1) htr (by omega)) zl_X6_19 zt_X6_requireArgument zc_X6_requireArgument zn_X6 zd_X6_requireArgument (Nat.le_of_ble_eq_true rfl) dX6_requireTicksTried_16 (by omega) (by omega) ?_
    exact zX_out hO hE hN (fun z9 hz9 => ⟨rfl, hz9, rfl, rfl, rfl⟩)
  · refine zr_iload_0 hO dX6_requireTicksTried_5 ?_
    refine zr_bipush (v := 60) hO dX6_requireTicksTried_6 (by decide) ?_
    refine zr_icmp_gt (tgt := 15) hO dX6_requireTicksTried_8 (by decide) (fun c8 => ?_) (fun c8 => ?_)
    · refine zr_iconst (v := 0) hO dX6_requireTicksTried_15 (by decide) ?_
      simp only [cR_tried, if_neg c2, if_pos c8] at hq
      cases hq
      refine zr_ST1 (D := d) hO hRm hL (by omega) (by decide) rfl (e_X6_requireArgument0 (d := d - 1) htr (by omega)) zl_X6_19 zt_X6_requireArgument zc_X6_requireArgument zn_X6 zd_X6_requireArgument (Nat.le_of_ble_eq_true rfl) dX6_requireTicksTried_16 (by omega) (by omega) ?_
      exact zX_out hO hE hN (fun z9 hz9 => ⟨rfl, hz9, rfl, rfl, rfl⟩)
    · refine zr_iconst (v := 1) hO dX6_requireTicksTried_11 (by decide) ?_
      refine zr_goto (tgt := 16) hO dX6_requireTicksTried_12 (by decide) ?_
      exfalso
      simp only [cR_tried, if_neg c2, if_neg c8] at hq
      cases hq
set_option maxRecDepth 100000 in
set_option maxHeartbeats 400000 in
theorem e_X6_isStep {l : Launch} {G : zGm} {d n : Nat} {ly : zLy} {τ : zTu} {σ : zSg} {c a : Int32} (htr : l.stackTraces = false) (hd : 0 ≤ d)  : zEv l G d 0 0 (yX6_isStep, cX6_isStep, 2, some .boolean) [.int c, .int a] (fun x => n ≤ x) ly τ σ (zPl n ly τ σ (some (.int (zb (cF_isStep c a))))) := by
  refine zEv_of (ls := [some (.int c), some (.int a), none, none, none, none, none, none, none]) htr (by decide) (Nat.le_of_ble_eq_true rfl) rfl (fun X hO hE hN hRm hL hNm => ?_)
  have hO : zOk G X RX6 cX6_isStep 2 := hO
  refine zr_iload_0 hO dX6_isStep_0 ?_
  by_cases c1_0 : c = 0
  · refine zr_tableIn (tgt := 40) hO dX6_isStep_1 (by rw [c1_0]; decide) (by rw [c1_0]; decide) (by rw [c1_0]; rfl) (by decide) ?_
    refine zr_iload_1 hO dX6_isStep_40 ?_
    refine zr_iconst (v := 1) hO dX6_isStep_41 (by decide) ?_
    refine zr_icmp_lt (tgt := 55) hO dX6_isStep_42 (by decide) (fun c42 => ?_) (fun c42 => ?_)
    · refine zr_iconst (v := 0) hO dX6_isStep_55 (by decide) ?_
      exact zr_zreturn hO hE (by decide) dX6_isStep_56 (zpl_is (by first | ((simp only [cF_isStep, if_pos c1_0, if_pos c42, if_neg (show ¬ c = 1 by rw [c1_0]; decide), if_neg (show ¬ c = 2 by rw [c1_0]; decide), if_neg (show ¬ c = 3 by rw [c1_0]; decide), if_neg (show ¬ c = 4 by rw [c1_0]; decide), if_neg (show ¬ c = 5 by rw [c1_0]; decide), if_neg (show ¬ c = 6 by rw [c1_0]; decide)]) <;> rfl) | contradiction))
    · refine zr_iload_1 hO dX6_isStep_45 ?_
      refine zr_bipush (v := 20) hO dX6_isStep_46 (by decide) ?_
      refine zr_icmp_gt (tgt := 55) hO dX6_isStep_48 (by decide) (fun c48 => ?_) (fun c48 => ?_)
      · refine zr_iconst (v := 0) hO dX6_isStep_55 (by decide) ?_
        exact zr_zreturn hO hE (by decide) dX6_isStep_56 (zpl_is (by first | ((simp only [cF_isStep, if_pos c1_0, if_neg c42, if_pos c48, if_neg (show ¬ c = 1 by rw [c1_0]; decide), if_neg (show ¬ c = 2 by rw [c1_0]; decide), if_neg (show ¬ c = 3 by rw [c1_0]; decide), if_neg (show ¬ c = 4 by rw [c1_0]; decide), if_neg (show ¬ c = 5 by rw [c1_0]; decide), if_neg (show ¬ c = 6 by rw [c1_0]; decide)]) <;> rfl) | contradiction))
      · refine zr_iconst (v := 1) hO dX6_isStep_51 (by decide) ?_
        refine zr_goto (tgt := 56) hO dX6_isStep_52 (by decide) ?_
        exact zr_zreturn hO hE (by decide) dX6_isStep_56 (zpl_is (by first | ((simp only [cF_isStep, if_pos c1_0, if_neg c42, if_neg c48, if_neg (show ¬ c = 1 by rw [c1_0]; decide), if_neg (show ¬ c = 2 by rw [c1_0]; decide), if_neg (show ¬ c = 3 by rw [c1_0]; decide), if_neg (show ¬ c = 4 by rw [c1_0]; decide), if_neg (show ¬ c = 5 by rw [c1_0]; decide), if_neg (show ¬ c = 6 by rw [c1_0]; decide)]) <;> rfl) | contradiction))
  by_cases c1_1 : c = 1
  · refine zr_tableIn (tgt := 57) hO dX6_isStep_1 (by rw [c1_1]; decide) (by rw [c1_1]; decide) (by rw [c1_1]; rfl) (by decide) ?_
    refine zr_iload_1 hO dX6_isStep_57 ?_
    refine zr_iconst (v := 1) hO dX6_isStep_58 (by decide) ?_
    refine zr_icmp_lt (tgt := 72) hO dX6_isStep_59 (by decide) (fun c59 => ?_) (fun c59 => ?_)
    · refine zr_iconst (v := 0) hO dX6_isStep_72 (by decide) ?_
      exact zr_zreturn hO hE (by decide) dX6_isStep_73 (zpl_is (by first | ((simp only [cF_isStep, if_neg c1_0, if_pos c1_1, if_pos c59, if_neg (show ¬ c = 0 by rw [c1_1]; decide), if_neg (show ¬ c = 2 by rw [c1_1]; decide), if_neg (show ¬ c = 3 by rw [c1_1]; decide), if_neg (show ¬ c = 4 by rw [c1_1]; decide), if_neg (show ¬ c = 5 by rw [c1_1]; decide), if_neg (show ¬ c = 6 by rw [c1_1]; decide)]) <;> rfl) | contradiction))
    · refine zr_iload_1 hO dX6_isStep_62 ?_
      refine zr_bipush (v := 40) hO dX6_isStep_63 (by decide) ?_
      refine zr_icmp_gt (tgt := 72) hO dX6_isStep_65 (by decide) (fun c65 => ?_) (fun c65 => ?_)
      · refine zr_iconst (v := 0) hO dX6_isStep_72 (by decide) ?_
        exact zr_zreturn hO hE (by decide) dX6_isStep_73 (zpl_is (by first | ((simp only [cF_isStep, if_neg c1_0, if_pos c1_1, if_neg c59, if_pos c65, if_neg (show ¬ c = 0 by rw [c1_1]; decide), if_neg (show ¬ c = 2 by rw [c1_1]; decide), if_neg (show ¬ c = 3 by rw [c1_1]; decide), if_neg (show ¬ c = 4 by rw [c1_1]; decide), if_neg (show ¬ c = 5 by rw [c1_1]; decide), if_neg (show ¬ c = 6 by rw [c1_1]; decide)]) <;> rfl) | contradiction))
      · refine zr_iconst (v := 1) hO dX6_isStep_68 (by decide) ?_
        refine zr_goto (tgt := 73) hO dX6_isStep_69 (by decide) ?_
        exact zr_zreturn hO hE (by decide) dX6_isStep_73 (zpl_is (by first | ((simp only [cF_isStep, if_neg c1_0, if_pos c1_1, if_neg c59, if_neg c65, if_neg (show ¬ c = 0 by rw [c1_1]; decide), if_neg (show ¬ c = 2 by rw [c1_1]; decide), if_neg (show ¬ c = 3 by rw [c1_1]; decide), if_neg (show ¬ c = 4 by rw [c1_1]; decide), if_neg (show ¬ c = 5 by rw [c1_1]; decide), if_neg (show ¬ c = 6 by rw [c1_1]; decide)]) <;> rfl) | contradiction))
  by_cases c1_2 : c = 2
  · refine zr_tableIn (tgt := 74) hO dX6_isStep_1 (by rw [c1_2]; decide) (by rw [c1_2]; decide) (by rw [c1_2]; rfl) (by decide) ?_
    refine zr_iload_1 hO dX6_isStep_74 ?_
    refine zr_if_lt (tgt := 88) hO dX6_isStep_75 (by decide) (fun c75 => ?_) (fun c75 => ?_)
    · refine zr_iconst (v := 0) hO dX6_isStep_88 (by decide) ?_
      exact zr_zreturn hO hE (by decide) dX6_isStep_89 (zpl_is (by first | ((simp only [cF_isStep, if_neg c1_0, if_neg c1_1, if_pos c1_2, if_pos c75, if_neg (show ¬ c = 0 by rw [c1_2]; decide), if_neg (show ¬ c = 1 by rw [c1_2]; decide), if_neg (show ¬ c = 3 by rw [c1_2]; decide), if_neg (show ¬ c = 4 by rw [c1_2]; decide), if_neg (show ¬ c = 5 by rw [c1_2]; decide), if_neg (show ¬ c = 6 by rw [c1_2]; decide)]) <;> rfl) | contradiction))
    · refine zr_iload_1 hO dX6_isStep_78 ?_
      refine zr_bipush (v := 6) hO dX6_isStep_79 (by decide) ?_
      refine zr_icmp_ge (tgt := 88) hO dX6_isStep_81 (by decide) (fun c81 => ?_) (fun c81 => ?_)
      · refine zr_iconst (v := 0) hO dX6_isStep_88 (by decide) ?_
        exact zr_zreturn hO hE (by decide) dX6_isStep_89 (zpl_is (by first | ((simp only [cF_isStep, if_neg c1_0, if_neg c1_1, if_pos c1_2, if_neg c75, if_neg c81, if_neg (show ¬ c = 0 by rw [c1_2]; decide), if_neg (show ¬ c = 1 by rw [c1_2]; decide), if_neg (show ¬ c = 3 by rw [c1_2]; decide), if_neg (show ¬ c = 4 by rw [c1_2]; decide), if_neg (show ¬ c = 5 by rw [c1_2]; decide), if_neg (show ¬ c = 6 by rw [c1_2]; decide)]) <;> rfl) | contradiction))
      · refine zr_iconst (v := 1) hO dX6_isStep_84 (by decide) ?_
        refine zr_goto (tgt := 89) hO dX6_isStep_85 (by decide) ?_
        exact zr_zreturn hO hE (by decide) dX6_isStep_89 (zpl_is (by first | ((simp only [cF_isStep, if_neg c1_0, if_neg c1_1, if_pos c1_2, if_neg c75, if_pos c81, if_neg (show ¬ c = 0 by rw [c1_2]; decide), if_neg (show ¬ c = 1 by rw [c1_2]; decide), if_neg (show ¬ c = 3 by rw [c1_2]; decide), if_neg (show ¬ c = 4 by rw [c1_2]; decide), if_neg (show ¬ c = 5 by rw [c1_2]; decide), if_neg (show ¬ c = 6 by rw [c1_2]; decide)]) <;> rfl) | contradiction))
  by_cases c1_3 : c = 3
  · refine zr_tableIn (tgt := 74) hO dX6_isStep_1 (by rw [c1_3]; decide) (by rw [c1_3]; decide) (by rw [c1_3]; rfl) (by decide) ?_
    refine zr_iload_1 hO dX6_isStep_74 ?_
    refine zr_if_lt (tgt := 88) hO dX6_isStep_75 (by decide) (fun c75 => ?_) (fun c75 => ?_)
    · refine zr_iconst (v := 0) hO dX6_isStep_88 (by decide) ?_
      exact zr_zreturn hO hE (by decide) dX6_isStep_89 (zpl_is (by first | ((simp only [cF_isStep, if_neg c1_0, if_neg c1_1, if_neg c1_2, if_pos c1_3, if_pos c75, if_neg (show ¬ c = 0 by rw [c1_3]; decide), if_neg (show ¬ c = 1 by rw [c1_3]; decide), if_neg (show ¬ c = 2 by rw [c1_3]; decide), if_neg (show ¬ c = 4 by rw [c1_3]; decide), if_neg (show ¬ c = 5 by rw [c1_3]; decide), if_neg (show ¬ c = 6 by rw [c1_3]; decide)]) <;> rfl) | contradiction))
    · refine zr_iload_1 hO dX6_isStep_78 ?_
      refine zr_bipush (v := 6) hO dX6_isStep_79 (by decide) ?_
      refine zr_icmp_ge (tgt := 88) hO dX6_isStep_81 (by decide) (fun c81 => ?_) (fun c81 => ?_)
      · refine zr_iconst (v := 0) hO dX6_isStep_88 (by decide) ?_
        exact zr_zreturn hO hE (by decide) dX6_isStep_89 (zpl_is (by first | ((simp only [cF_isStep, if_neg c1_0, if_neg c1_1, if_neg c1_2, if_pos c1_3, if_neg c75, if_neg c81, if_neg (show ¬ c = 0 by rw [c1_3]; decide), if_neg (show ¬ c = 1 by rw [c1_3]; decide), if_neg (show ¬ c = 2 by rw [c1_3]; decide), if_neg (show ¬ c = 4 by rw [c1_3]; decide), if_neg (show ¬ c = 5 by rw [c1_3]; decide), if_neg (show ¬ c = 6 by rw [c1_3]; decide)]) <;> rfl) | contradiction))
      · refine zr_iconst (v := 1) hO dX6_isStep_84 (by decide) ?_
        refine zr_goto (tgt := 89) hO dX6_isStep_85 (by decide) ?_
        exact zr_zreturn hO hE (by decide) dX6_isStep_89 (zpl_is (by first | ((simp only [cF_isStep, if_neg c1_0, if_neg c1_1, if_neg c1_2, if_pos c1_3, if_neg c75, if_pos c81, if_neg (show ¬ c = 0 by rw [c1_3]; decide), if_neg (show ¬ c = 1 by rw [c1_3]; decide), if_neg (show ¬ c = 2 by rw [c1_3]; decide), if_neg (show ¬ c = 4 by rw [c1_3]; decide), if_neg (show ¬ c = 5 by rw [c1_3]; decide), if_neg (show ¬ c = 6 by rw [c1_3]; decide)]) <;> rfl) | contradiction))
  by_cases c1_4 : c = 4
  · refine zr_tableIn (tgt := 90) hO dX6_isStep_1 (by rw [c1_4]; decide) (by rw [c1_4]; decide) (by rw [c1_4]; rfl) (by decide) ?_
    refine zr_iload_1 hO dX6_isStep_90 ?_
    refine zr_if_lt (tgt := 104) hO dX6_isStep_91 (by decide) (fun c91 => ?_) (fun c91 => ?_)
    · refine zr_iconst (v := 0) hO dX6_isStep_104 (by decide) ?_
      exact zr_zreturn hO hE (by decide) dX6_isStep_105 (zpl_is (by first | ((simp only [cF_isStep, if_neg c1_0, if_neg c1_1, if_neg c1_2, if_neg c1_3, if_pos c1_4, if_pos c91, if_neg (show ¬ c = 0 by rw [c1_4]; decide), if_neg (show ¬ c = 1 by rw [c1_4]; decide), if_neg (show ¬ c = 2 by rw [c1_4]; decide), if_neg (show ¬ c = 3 by rw [c1_4]; decide), if_neg (show ¬ c = 5 by rw [c1_4]; decide), if_neg (show ¬ c = 6 by rw [c1_4]; decide)]) <;> rfl) | contradiction))
    · refine zr_iload_1 hO dX6_isStep_94 ?_
      refine zr_bipush (v := 6) hO dX6_isStep_95 (by decide) ?_
      refine zr_icmp_ge (tgt := 104) hO dX6_isStep_97 (by decide) (fun c97 => ?_) (fun c97 => ?_)
      · refine zr_iconst (v := 0) hO dX6_isStep_104 (by decide) ?_
        exact zr_zreturn hO hE (by decide) dX6_isStep_105 (zpl_is (by first | ((simp only [cF_isStep, if_neg c1_0, if_neg c1_1, if_neg c1_2, if_neg c1_3, if_pos c1_4, if_neg c91, if_neg c97, if_neg (show ¬ c = 0 by rw [c1_4]; decide), if_neg (show ¬ c = 1 by rw [c1_4]; decide), if_neg (show ¬ c = 2 by rw [c1_4]; decide), if_neg (show ¬ c = 3 by rw [c1_4]; decide), if_neg (show ¬ c = 5 by rw [c1_4]; decide), if_neg (show ¬ c = 6 by rw [c1_4]; decide)]) <;> rfl) | contradiction))
      · refine zr_iconst (v := 1) hO dX6_isStep_100 (by decide) ?_
        refine zr_goto (tgt := 105) hO dX6_isStep_101 (by decide) ?_
        exact zr_zreturn hO hE (by decide) dX6_isStep_105 (zpl_is (by first | ((simp only [cF_isStep, if_neg c1_0, if_neg c1_1, if_neg c1_2, if_neg c1_3, if_pos c1_4, if_neg c91, if_pos c97, if_neg (show ¬ c = 0 by rw [c1_4]; decide), if_neg (show ¬ c = 1 by rw [c1_4]; decide), if_neg (show ¬ c = 2 by rw [c1_4]; decide), if_neg (show ¬ c = 3 by rw [c1_4]; decide), if_neg (show ¬ c = 5 by rw [c1_4]; decide), if_neg (show ¬ c = 6 by rw [c1_4]; decide)]) <;> rfl) | contradiction))
  by_cases c1_5 : c = 5
  · refine zr_tableIn (tgt := 90) hO dX6_isStep_1 (by rw [c1_5]; decide) (by rw [c1_5]; decide) (by rw [c1_5]; rfl) (by decide) ?_
    refine zr_iload_1 hO dX6_isStep_90 ?_
    refine zr_if_lt (tgt := 104) hO dX6_isStep_91 (by decide) (fun c91 => ?_) (fun c91 => ?_)
    · refine zr_iconst (v := 0) hO dX6_isStep_104 (by decide) ?_
      exact zr_zreturn hO hE (by decide) dX6_isStep_105 (zpl_is (by first | ((simp only [cF_isStep, if_neg c1_0, if_neg c1_1, if_neg c1_2, if_neg c1_3, if_neg c1_4, if_pos c1_5, if_pos c91, if_neg (show ¬ c = 0 by rw [c1_5]; decide), if_neg (show ¬ c = 1 by rw [c1_5]; decide), if_neg (show ¬ c = 2 by rw [c1_5]; decide), if_neg (show ¬ c = 3 by rw [c1_5]; decide), if_neg (show ¬ c = 4 by rw [c1_5]; decide), if_neg (show ¬ c = 6 by rw [c1_5]; decide)]) <;> rfl) | contradiction))
    · refine zr_iload_1 hO dX6_isStep_94 ?_
      refine zr_bipush (v := 6) hO dX6_isStep_95 (by decide) ?_
      refine zr_icmp_ge (tgt := 104) hO dX6_isStep_97 (by decide) (fun c97 => ?_) (fun c97 => ?_)
      · refine zr_iconst (v := 0) hO dX6_isStep_104 (by decide) ?_
        exact zr_zreturn hO hE (by decide) dX6_isStep_105 (zpl_is (by first | ((simp only [cF_isStep, if_neg c1_0, if_neg c1_1, if_neg c1_2, if_neg c1_3, if_neg c1_4, if_pos c1_5, if_neg c91, if_neg c97, if_neg (show ¬ c = 0 by rw [c1_5]; decide), if_neg (show ¬ c = 1 by rw [c1_5]; decide), if_neg (show ¬ c = 2 by rw [c1_5]; decide), if_neg (show ¬ c = 3 by rw [c1_5]; decide), if_neg (show ¬ c = 4 by rw [c1_5]; decide), if_neg (show ¬ c = 6 by rw [c1_5]; decide)]) <;> rfl) | contradiction))
      · refine zr_iconst (v := 1) hO dX6_isStep_100 (by decide) ?_
        refine zr_goto (tgt := 105) hO dX6_isStep_101 (by decide) ?_
        exact zr_zreturn hO hE (by decide) dX6_isStep_105 (zpl_is (by first | ((simp only [cF_isStep, if_neg c1_0, if_neg c1_1, if_neg c1_2, if_neg c1_3, if_neg c1_4, if_pos c1_5, if_neg c91, if_pos c97, if_neg (show ¬ c = 0 by rw [c1_5]; decide), if_neg (show ¬ c = 1 by rw [c1_5]; decide), if_neg (show ¬ c = 2 by rw [c1_5]; decide), if_neg (show ¬ c = 3 by rw [c1_5]; decide), if_neg (show ¬ c = 4 by rw [c1_5]; decide), if_neg (show ¬ c = 6 by rw [c1_5]; decide)]) <;> rfl) | contradiction))
  refine zr_tableOut (tgt := 106) hO dX6_isStep_1 (by have h0 := lv_neT c1_0 (show (0 : Int32).toInt = 0 from rfl); have h1 := lv_neT c1_1 (show (1 : Int32).toInt = 1 from rfl); have h2 := lv_neT c1_2 (show (2 : Int32).toInt = 2 from rfl); have h3 := lv_neT c1_3 (show (3 : Int32).toInt = 3 from rfl); have h4 := lv_neT c1_4 (show (4 : Int32).toInt = 4 from rfl); have h5 := lv_neT c1_5 (show (5 : Int32).toInt = 5 from rfl); omega) (by decide) ?_
  refine zr_iload_0 hO dX6_isStep_106 ?_
  refine zr_bipush (v := 6) hO dX6_isStep_107 (by decide) ?_
  refine zr_icmp_ne (tgt := 116) hO dX6_isStep_109 (by decide) (fun c109 => ?_) (fun c109 => ?_)
  · refine zr_iconst (v := 0) hO dX6_isStep_116 (by decide) ?_
    exact zr_zreturn hO hE (by decide) dX6_isStep_117 (zpl_is (by first | ((simp only [cF_isStep, if_neg c1_0, if_neg c1_1, if_neg c1_2, if_neg c1_3, if_neg c1_4, if_neg c1_5, if_neg c109]) <;> rfl) | contradiction))
  · refine zr_iconst (v := 1) hO dX6_isStep_112 (by decide) ?_
    refine zr_goto (tgt := 117) hO dX6_isStep_113 (by decide) ?_
    exact zr_zreturn hO hE (by decide) dX6_isStep_117 (zpl_is (by first | ((simp only [cF_isStep, if_neg c1_0, if_neg c1_1, if_neg c1_2, if_neg c1_3, if_neg c1_4, if_neg c1_5, if_pos c109, if_neg (show ¬ c = 0 by rw [c109]; decide), if_neg (show ¬ c = 1 by rw [c109]; decide), if_neg (show ¬ c = 2 by rw [c109]; decide), if_neg (show ¬ c = 3 by rw [c109]; decide), if_neg (show ¬ c = 4 by rw [c109]; decide), if_neg (show ¬ c = 5 by rw [c109]; decide)]) <;> rfl) | contradiction))
set_option maxRecDepth 100000 in
set_option maxHeartbeats 400000 in
theorem e_X6_requireProcessor_ok {l : Launch} {G : zGm} {d n x o q : Nat} {ly : zLy} {τ : zTu} {σ M : zSg} {t : Int32} (htr : l.stackTraces = false) (hX : ly x = (6 + 5, 2, zcr6 o q)) (hM : zC ly o) (hd : 6 ≤ d) (hq : cR_proc M t = none) : zEv l G d 0 0 (yX6_requireProcessor, cX6_requireProcessor, 2, none) [.ref x, .int t] (fun x => n ≤ x) ly τ (zwr σ o 95 M) (zPl n ly τ (zwr σ o 95 M) none) := by
  refine zEv_of (ls := [some (.ref x), some (.int t), none, none, none, none, none, none, none]) htr (by decide) (Nat.le_of_ble_eq_true rfl) rfl (fun X hO hE hN hRm hL hNm => ?_)
  have hO : zOk G X RX6 cX6_requireProcessor 2 := hO
  refine zr_iload_1 hO dX6_requireProcessor_0 ?_
  refine zr_if_lt (tgt := 18) hO dX6_requireProcessor_1 (by decide) (fun c1 => ?_) (fun c1 => ?_)
  · exfalso
    simp only [cR_proc, if_pos c1] at hq
    cases hq
  · refine zr_iload_1 hO dX6_requireProcessor_4 ?_
    refine zr_aload_0 hO dX6_requireProcessor_5 ?_
    refine zr_getfr (c := 6) hO (by decide) (by decide) zf_X6_10 hX rfl rfl dX6_requireProcessor_6 ?_
    refine zr_getfr (c := 0) hO (by decide) (by decide) zf_X6_23 (zC_0 hM) rfl rfl dX6_requireProcessor_9 ?_
    refine zg_getfi (c := 2) hO (zC_1 hM) (by decide) (by decide) (by decide) zf_X6_27 rfl dX6_requireProcessor_12 ?_
    refine zr_icmp_lt (tgt := 29) hO dX6_requireProcessor_15 (by decide) (fun c15 => ?_) (fun c15 => ?_)
    · exact zr_return hO hE dX6_requireProcessor_29 (fun z9 hz9 => ⟨rfl, hz9, rfl, rfl, rfl⟩)
    · exfalso
      simp only [cR_proc, if_neg c1, if_neg c15] at hq
      cases hq
set_option maxRecDepth 100000 in
set_option maxHeartbeats 400000 in
theorem e_X6_requireProcessor_x {l : Launch} {G : zGm} {d n x o q : Nat} {ly : zLy} {τ : zTu} {σ M : zSg} {t : Int32} {E : String} (htr : l.stackTraces = false) (hX : ly x = (6 + 5, 2, zcr6 o q)) (hM : zC ly o) (hd : 6 ≤ d) (hq : cR_proc M t = some E) : zEv l G d 1 6 (yX6_requireProcessor, cX6_requireProcessor, 2, none) [.ref x, .int t] (fun x => n ≤ x) ly τ (zwr σ o 95 M) (zPt n ly τ (zwr σ o 95 M) E) := by
  refine zEv_of (ls := [some (.ref x), some (.int t), none, none, none, none, none, none, none]) htr (by decide) (Nat.le_of_ble_eq_true rfl) rfl (fun X hO hE hN hRm hL hNm => ?_)
  have hO : zOk G X RX6 cX6_requireProcessor 2 := hO
  refine zr_iload_1 hO dX6_requireProcessor_0 ?_
  refine zr_if_lt (tgt := 18) hO dX6_requireProcessor_1 (by decide) (fun c1 => ?_) (fun c1 => ?_)
  · simp only [cR_proc, if_pos c1] at hq
    cases hq
    exact zr_throwW (D := d) hO hE hN (by omega) hRm zXw_ix (by decide +kernel) (by decide : 299 ∈ zStrs) (Nat.le_of_ble_eq_true rfl) (by omega) (by omega) dX6_requireProcessor_18 dX6_requireProcessor_21 dX6_requireProcessor_22 dX6_requireProcessor_25 dX6_requireProcessor_28 (fun z8 z9 hz8 hz9 => ⟨rfl, (Nat.le_trans hz8 hz9), rfl, rfl, rfl⟩)
  · refine zr_iload_1 hO dX6_requireProcessor_4 ?_
    refine zr_aload_0 hO dX6_requireProcessor_5 ?_
    refine zr_getfr (c := 6) hO (by decide) (by decide) zf_X6_10 hX rfl rfl dX6_requireProcessor_6 ?_
    refine zr_getfr (c := 0) hO (by decide) (by decide) zf_X6_23 (zC_0 hM) rfl rfl dX6_requireProcessor_9 ?_
    refine zg_getfi (c := 2) hO (zC_1 hM) (by decide) (by decide) (by decide) zf_X6_27 rfl dX6_requireProcessor_12 ?_
    refine zr_icmp_lt (tgt := 29) hO dX6_requireProcessor_15 (by decide) (fun c15 => ?_) (fun c15 => ?_)
    · exfalso
      simp only [cR_proc, if_neg c1, if_pos c15] at hq
      cases hq
    · simp only [cR_proc, if_neg c1, if_neg c15] at hq
      cases hq
      exact zr_throwW (D := d) hO hE hN (by omega) hRm zXw_ix (by decide +kernel) (by decide : 299 ∈ zStrs) (Nat.le_of_ble_eq_true rfl) (by omega) (by omega) dX6_requireProcessor_18 dX6_requireProcessor_21 dX6_requireProcessor_22 dX6_requireProcessor_25 dX6_requireProcessor_28 (fun z8 z9 hz8 hz9 => ⟨rfl, (Nat.le_trans hz8 hz9), rfl, rfl, rfl⟩)
set_option maxRecDepth 100000 in
set_option maxHeartbeats 400000 in
theorem e_X6_requireTask_ok {l : Launch} {G : zGm} {d n x o q : Nat} {ly : zLy} {τ : zTu} {σ M : zSg} {t : Int32} {i : Nat} (htr : l.stackTraces = false) (hX : ly x = (6 + 5, 2, zcr6 o q)) (hM : zC ly o) (hd : 6 ≤ d) (hq : cF_rt M t = some i) : zEv l G d 0 0 (yX6_requireTask, cX6_requireTask, 3, some (.object "BeadleKernel$Task")) [.ref x, .int t] (fun x => n ≤ x) ly τ (zwr σ o 95 M) (zPl n ly τ (zwr σ o 95 M) (some (.ref (o + ztk i)))) := by
  refine zEv_of (ls := [some (.ref x), some (.int t), none, none, none, none, none, none, none]) htr (by decide) (Nat.le_of_ble_eq_true rfl) rfl (fun X hO hE hN hRm hL hNm => ?_)
  have hO : zOk G X RX6 cX6_requireTask 3 := hO
  refine zr_aload_0 hO dX6_requireTask_0 ?_
  refine zr_getfr (c := 6) hO (by decide) (by decide) zf_X6_10 hX rfl rfl dX6_requireTask_1 ?_
  refine zr_iload_1 hO dX6_requireTask_4 ?_
  refine zr_V1 (D := d) hO hRm hL (by omega) (by decide) (c := 0) (by decide) (zC_0 hM) rfl rfl (e_X0_taskAt (d := d - 1) htr hM (by omega)) zl_X6_62 zi_X0_taskAt zs_X0_taskAt zc_X0_taskAt zn_X0 zd_X0_taskAt (Nat.le_of_ble_eq_true rfl) dX6_requireTask_5 (by omega) (by omega) ?_
  generalize hq5 : cF_at _ = r5
  rcases r5 with _ | r5
  · refine zr_nstore_2 hO dX6_requireTask_8 (by decide) rfl ?_
    refine zr_nload_2 hO dX6_requireTask_9 ?_
    refine zr_ifnullN (tgt := 24) hO dX6_requireTask_10 (by decide) ?_
    exfalso
    simp only [cF_rt, hq5] at hq
    cases hq
  · have hr5 : r5 < 16 := cF_at_lt hq5
    refine zr_astore_2 hO dX6_requireTask_8 (by decide) rfl ?_
    refine zr_aload_2 hO dX6_requireTask_9 ?_
    refine zr_ifnull hO dX6_requireTask_10 ?_
    refine zr_iload_1 hO dX6_requireTask_13 ?_
    refine zr_aload_0 hO dX6_requireTask_14 ?_
    refine zr_getfr (c := 6) hO (by decide) (by decide) zf_X6_10 hX rfl rfl dX6_requireTask_15 ?_
    refine zg_getfi0 (c := 0) hO (zC_0 hM) (by decide) (by decide) (by decide) zf_X6_59 rfl dX6_requireTask_18 ?_
    refine zV_pc (pc' := 21) rfl ?_
    refine zr_icmp_lt (tgt := 35) hO dX6_requireTask_21 (by decide) (fun c21 => ?_) (fun c21 => ?_)
    · refine zr_aload_2 hO dX6_requireTask_35 ?_
      simp only [cF_rt, hq5, if_pos c21] at hq
      cases hq
      exact zr_areturn hO hE dX6_requireTask_36 (fun z9 hz9 => ⟨rfl, hz9, rfl, rfl, rfl⟩)
    · exfalso
      simp only [cF_rt, hq5, if_neg c21] at hq
      cases hq
set_option maxRecDepth 100000 in
set_option maxHeartbeats 400000 in
theorem e_X6_requireTask_x {l : Launch} {G : zGm} {d n x o q : Nat} {ly : zLy} {τ : zTu} {σ M : zSg} {t : Int32} (htr : l.stackTraces = false) (hX : ly x = (6 + 5, 2, zcr6 o q)) (hM : zC ly o) (hd : 6 ≤ d) (hq : cF_rt M t = none) : zEv l G d 1 6 (yX6_requireTask, cX6_requireTask, 3, some (.object "BeadleKernel$Task")) [.ref x, .int t] (fun x => n ≤ x) ly τ (zwr σ o 95 M) (zPt n ly τ (zwr σ o 95 M) eIX) := by
  refine zEv_of (ls := [some (.ref x), some (.int t), none, none, none, none, none, none, none]) htr (by decide) (Nat.le_of_ble_eq_true rfl) rfl (fun X hO hE hN hRm hL hNm => ?_)
  have hO : zOk G X RX6 cX6_requireTask 3 := hO
  refine zr_aload_0 hO dX6_requireTask_0 ?_
  refine zr_getfr (c := 6) hO (by decide) (by decide) zf_X6_10 hX rfl rfl dX6_requireTask_1 ?_
  refine zr_iload_1 hO dX6_requireTask_4 ?_
  refine zr_V1 (D := d) hO hRm hL (by omega) (by decide) (c := 0) (by decide) (zC_0 hM) rfl rfl (e_X0_taskAt (d := d - 1) htr hM (by omega)) zl_X6_62 zi_X0_taskAt zs_X0_taskAt zc_X0_taskAt zn_X0 zd_X0_taskAt (Nat.le_of_ble_eq_true rfl) dX6_requireTask_5 (by omega) (by omega) ?_
  generalize hq5 : cF_at _ = r5
  rcases r5 with _ | r5
  · refine zr_nstore_2 hO dX6_requireTask_8 (by decide) rfl ?_
    refine zr_nload_2 hO dX6_requireTask_9 ?_
    refine zr_ifnullN (tgt := 24) hO dX6_requireTask_10 (by decide) ?_
    exact zr_throwW (D := d) hO hE hN (by omega) hRm zXw_ix (by decide +kernel) (by decide : 301 ∈ zStrs) (Nat.le_of_ble_eq_true rfl) (by omega) (by omega) dX6_requireTask_24 dX6_requireTask_27 dX6_requireTask_28 dX6_requireTask_31 dX6_requireTask_34 (fun z8 z9 hz8 hz9 => ⟨rfl, (Nat.le_trans hz8 hz9), rfl, rfl, rfl⟩)
  · have hr5 : r5 < 16 := cF_at_lt hq5
    refine zr_astore_2 hO dX6_requireTask_8 (by decide) rfl ?_
    refine zr_aload_2 hO dX6_requireTask_9 ?_
    refine zr_ifnull hO dX6_requireTask_10 ?_
    refine zr_iload_1 hO dX6_requireTask_13 ?_
    refine zr_aload_0 hO dX6_requireTask_14 ?_
    refine zr_getfr (c := 6) hO (by decide) (by decide) zf_X6_10 hX rfl rfl dX6_requireTask_15 ?_
    refine zg_getfi0 (c := 0) hO (zC_0 hM) (by decide) (by decide) (by decide) zf_X6_59 rfl dX6_requireTask_18 ?_
    refine zV_pc (pc' := 21) rfl ?_
    refine zr_icmp_lt (tgt := 35) hO dX6_requireTask_21 (by decide) (fun c21 => ?_) (fun c21 => ?_)
    · refine zr_aload_2 hO dX6_requireTask_35 ?_
      exfalso
      simp only [cF_rt, hq5, if_pos c21] at hq
      cases hq
    · exact zr_throwW (D := d) hO hE hN (by omega) hRm zXw_ix (by decide +kernel) (by decide : 301 ∈ zStrs) (Nat.le_of_ble_eq_true rfl) (by omega) (by omega) dX6_requireTask_24 dX6_requireTask_27 dX6_requireTask_28 dX6_requireTask_31 dX6_requireTask_34 (fun z8 z9 hz8 hz9 => ⟨rfl, (Nat.le_trans hz8 hz9), rfl, rfl, rfl⟩)
