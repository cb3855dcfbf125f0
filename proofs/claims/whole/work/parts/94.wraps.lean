/-! The law's wrappers: what is thrown becomes a number -/
def zPw (n : Nat) (ly : zLy) (τ : zTu) (σ : zSg) (o w : Nat) (A : zSg) (R : zRs) (L : List String) : zPost := fun r z ly' τ' σ' => n ≤ z ∧ ly' = ly ∧ (match R with | .inl q => r = .inl (some (.int 0)) ∧ σ' = zwr σ o 95 q.1 ∧ τ' = zupL τ w 0 q.2.toInt64 | .inr E => r = .inl (some (.int (eco L E))) ∧ σ' = zwr σ o 95 A ∧ τ' = τ)
theorem zPw_i {n z o w : Nat} {ly : zLy} {τ : zTu} {σ A A' : zSg} {R : zRs} {L : List String} {v : Int32} (hz : n ≤ z) (h : R = .inl (A', v)) : zPw n ly τ σ o w A R L (.inl (some (.int 0))) z ly (zupL τ w 0 v.toInt64) (zwr σ o 95 A') := by
  subst h
  exact ⟨hz, rfl, rfl, rfl, rfl⟩
theorem zPw_x {n z o w : Nat} {ly : zLy} {τ : zTu} {σ A : zSg} {R : zRs} {L : List String} {E : String} {v : Int32} (hz : n ≤ z) (h : R = .inr E) (hv : v = eco L E) : zPw n ly τ σ o w A R L (.inl (some (.int v))) z ly τ (zwr σ o 95 A) := by
  subst h
  subst hv
  exact ⟨hz, rfl, rfl, rfl, rfl⟩
theorem zka_L_13 : Cond.castable "java/lang/IllegalArgumentException" "java/lang/IllegalArgumentException" ∈ lw_tbl := by decide +kernel
theorem zka_L_23 : Cond.castable "java/lang/IndexOutOfBoundsException" "java/lang/IndexOutOfBoundsException" ∈ lw_tbl := by decide +kernel
theorem zka_L_31 : Cond.castable "java/lang/IllegalStateException" "java/lang/IllegalStateException" ∈ lw_tbl := by decide +kernel
set_option maxRecDepth 100000 in
set_option maxHeartbeats 400000 in
theorem e_L_setProcessors {l : Launch} {G : zGm} {d n x o q w : Nat} {ly : zLy} {τ : zTu} {σ A : zSg} {a : Int32} (htr : l.stackTraces = false) (hX : ly x = (6 + 5, 2, zcr6 o q)) (hA : zC ly o) (hw : ly w = (2, 1, znr)) (hE9 : ∀ E, cP_setProcessors A a = .inr E → E ∈ LA) (hd : 8 ≤ d) : zEvH l G d 1 6 (yL_setProcessors, cL_setProcessors, 4, some .int) [(0, 9, 12, 13)] [.ref x, .int a, .ref w] (fun z => n ≤ z) ly τ (zwr σ o 95 A) (zPw n ly τ σ o w A (cP_setProcessors A a) LA) := by
  refine zEvH_of (ls := [some (.ref x), some (.int a), some (.ref w), none, none, none, none, none, none]) htr (by decide) (Nat.le_of_ble_eq_true rfl) rfl (fun X hO hE hT hRm hL hNm => ?_)
  have hO : zOk G X RL cL_setProcessors 4 := hO
  refine zr_aload_2 hO dL_setProcessors_0 ?_
  refine zr_iconst (v := 0) hO dL_setProcessors_1 (by decide) ?_
  refine zr_aload_0 hO dL_setProcessors_2 ?_
  refine zr_iload_1 hO dL_setProcessors_3 ?_
  refine zV_pc (pc' := 4) rfl ?_
  refine z_callV (As := [.int a]) hO hRm hL (by omega) (by decide) (c := 6) (by decide) hX rfl rfl (e_X6_setProcessors (d := d - 1) htr hX hA (by omega)) zl_L_7 zi_X6_setProcessors zs_X6_setProcessors zc_X6_setProcessors zn_X6 zd_X6_setProcessors (Nat.le_of_ble_eq_true rfl) dL_setProcessors_4 (by omega) (by omega) (fun E9 z ly9 τ9 σ9 h => ?_) (fun v9 z ly9 τ9 σ9 h => ?_)
  · obtain ⟨h1, rfl, rfl, h4⟩ := h
    rcases hR : cP_setProcessors A a with q9 | E'
    · rw [hR] at h4; exact absurd h4.1 (by simp)
    rw [hR] at h4
    obtain ⟨h4, rfl⟩ := h4
    cases h4
    have hm := hE9 _ hR
    simp only [LA, List.mem_cons, List.not_mem_nil, or_false] at hm
    subst hm
    · refine zX_catch hO hT [] [] (a1 := 0) (a2 := 9) (a3 := 12) (ct := 13) rfl (fun z hz => absurd hz List.not_mem_nil) (by decide) (by decide) zk_L_13 zka_L_13 (fun q8 => ?_)
      refine zr_astore_3 hO dL_setProcessors_12 (by decide) rfl ?_
      refine zV_pc (pc' := 13) rfl ?_
      refine zr_iconst (v := 1) hO dL_setProcessors_13 (by decide) ?_
      exact zr_ireturn hO hE dL_setProcessors_14 (fun z9 hz9 => by subst hz9; exact zPw_x h1 hR (by decide))
  · obtain ⟨h1, rfl, rfl, h4⟩ := h
    rcases hR : cP_setProcessors A a with q9 | E'
    rotate_left
    · rw [hR] at h4; exact absurd h4.1 (by simp)
    rw [hR] at h4
    obtain ⟨h4, rfl⟩ := h4
    cases h4
    refine zV_pc (pc' := 7) rfl ?_
    refine zr_i2l hO dL_setProcessors_7 ?_
    refine zr_last hO hw (zin_i ⟨by decide, by decide⟩) dL_setProcessors_8 ?_
    refine zr_goto (tgt := 15) hO dL_setProcessors_9 (by decide) ?_
    refine zr_iconst (v := 0) hO dL_setProcessors_15 (by decide) ?_
    exact zr_ireturn hO hE dL_setProcessors_16 (fun z9 hz9 => by subst hz9; exact zPw_i h1 hR)
set_option maxRecDepth 100000 in
set_option maxHeartbeats 400000 in
theorem e_L_setWay {l : Launch} {G : zGm} {d n x o q w : Nat} {ly : zLy} {τ : zTu} {σ A : zSg} {a b c : Int32} (htr : l.stackTraces = false) (hX : ly x = (6 + 5, 2, zcr6 o q)) (hA : zC ly o) (hw : ly w = (2, 1, znr)) (hE9 : ∀ E, cP_setWay A a b c = .inr E → E ∈ LA) (hd : 8 ≤ d) : zEvH l G d 1 6 (yL_setWay, cL_setWay, 6, some .int) [(0, 12, 15, 13)] [.ref x, .int a, .int b, .int c, .ref w] (fun z => n ≤ z) ly τ (zwr σ o 95 A) (zPw n ly τ σ o w A (cP_setWay A a b c) LA) := by
  refine zEvH_of (ls := [some (.ref x), some (.int a), some (.int b), some (.int c), some (.ref w), none, none, none, none]) htr (by decide) (Nat.le_of_ble_eq_true rfl) rfl (fun X hO hE hT hRm hL hNm => ?_)
  have hO : zOk G X RL cL_setWay 6 := hO
  refine zr_aload_4 hO dL_setWay_0 ?_
  refine zr_iconst (v := 0) hO dL_setWay_2 (by decide) ?_
  refine zr_aload_0 hO dL_setWay_3 ?_
  refine zr_iload_1 hO dL_setWay_4 ?_
  refine zr_iload_2 hO dL_setWay_5 ?_
  refine zr_iload_3 hO dL_setWay_6 ?_
  refine zV_pc (pc' := 7) rfl ?_
  refine z_callV (As := [.int a, .int b, .int c]) hO hRm hL (by omega) (by decide) (c := 6) (by decide) hX rfl rfl (e_X6_setWay (d := d - 1) htr hX hA (by omega)) zl_L_15 zi_X6_setWay zs_X6_setWay zc_X6_setWay zn_X6 zd_X6_setWay (Nat.le_of_ble_eq_true rfl) dL_setWay_7 (by omega) (by omega) (fun E9 z ly9 τ9 σ9 h => ?_) (fun v9 z ly9 τ9 σ9 h => ?_)
  · obtain ⟨h1, rfl, rfl, h4⟩ := h
    rcases hR : cP_setWay A a b c with q9 | E'
    · rw [hR] at h4; exact absurd h4.1 (by simp)
    rw [hR] at h4
    obtain ⟨h4, rfl⟩ := h4
    cases h4
    have hm := hE9 _ hR
    simp only [LA, List.mem_cons, List.not_mem_nil, or_false] at hm
    subst hm
    · refine zX_catch hO hT [] [] (a1 := 0) (a2 := 12) (a3 := 15) (ct := 13) rfl (fun z hz => absurd hz List.not_mem_nil) (by decide) (by decide) zk_L_13 zka_L_13 (fun q8 => ?_)
      refine zr_astore_5 hO dL_setWay_15 (by decide) rfl ?_
      refine zV_pc (pc' := 17) rfl ?_
      refine zr_iconst (v := 1) hO dL_setWay_17 (by decide) ?_
      exact zr_ireturn hO hE dL_setWay_18 (fun z9 hz9 => by subst hz9; exact zPw_x h1 hR (by decide))
  · obtain ⟨h1, rfl, rfl, h4⟩ := h
    rcases hR : cP_setWay A a b c with q9 | E'
    rotate_left
    · rw [hR] at h4; exact absurd h4.1 (by simp)
    rw [hR] at h4
    obtain ⟨h4, rfl⟩ := h4
    cases h4
    refine zV_pc (pc' := 10) rfl ?_
    refine zr_i2l hO dL_setWay_10 ?_
    refine zr_last hO hw (zin_i ⟨by decide, by decide⟩) dL_setWay_11 ?_
    refine zr_goto (tgt := 19) hO dL_setWay_12 (by decide) ?_
    refine zr_iconst (v := 0) hO dL_setWay_19 (by decide) ?_
    exact zr_ireturn hO hE dL_setWay_20 (fun z9 hz9 => by subst hz9; exact zPw_i h1 hR)
set_option maxRecDepth 100000 in
set_option maxHeartbeats 400000 in
theorem e_L_setQuota {l : Launch} {G : zGm} {d n x o q w : Nat} {ly : zLy} {τ : zTu} {σ A : zSg} {a b : Int32} (htr : l.stackTraces = false) (hX : ly x = (6 + 5, 2, zcr6 o q)) (hA : zC ly o) (hw : ly w = (2, 1, znr)) (hE9 : ∀ E, cP_setQuota A a b = .inr E → E ∈ LXA) (hd : 8 ≤ d) : zEvH l G d 1 6 (yL_setQuota, cL_setQuota, 5, some .int) [(0, 10, 13, 23), (0, 10, 17, 13)] [.ref x, .int a, .int b, .ref w] (fun z => n ≤ z) ly τ (zwr σ o 95 A) (zPw n ly τ σ o w A (cP_setQuota A a b) LXA) := by
  refine zEvH_of (ls := [some (.ref x), some (.int a), some (.int b), some (.ref w), none, none, none, none, none]) htr (by decide) (Nat.le_of_ble_eq_true rfl) rfl (fun X hO hE hT hRm hL hNm => ?_)
  have hO : zOk G X RL cL_setQuota 5 := hO
  refine zr_aload_3 hO dL_setQuota_0 ?_
  refine zr_iconst (v := 0) hO dL_setQuota_1 (by decide) ?_
  refine zr_aload_0 hO dL_setQuota_2 ?_
  refine zr_iload_1 hO dL_setQuota_3 ?_
  refine zr_iload_2 hO dL_setQuota_4 ?_
  refine zV_pc (pc' := 5) rfl ?_
  refine z_callV (As := [.int a, .int b]) hO hRm hL (by omega) (by decide) (c := 6) (by decide) hX rfl rfl (e_X6_setQuota (d := d - 1) htr hX hA (by omega)) zl_L_19 zi_X6_setQuota zs_X6_setQuota zc_X6_setQuota zn_X6 zd_X6_setQuota (Nat.le_of_ble_eq_true rfl) dL_setQuota_5 (by omega) (by omega) (fun E9 z ly9 τ9 σ9 h => ?_) (fun v9 z ly9 τ9 σ9 h => ?_)
  · obtain ⟨h1, rfl, rfl, h4⟩ := h
    rcases hR : cP_setQuota A a b with q9 | E'
    · rw [hR] at h4; exact absurd h4.1 (by simp)
    rw [hR] at h4
    obtain ⟨h4, rfl⟩ := h4
    cases h4
    have hm := hE9 _ hR
    simp only [LXA, List.mem_cons, List.not_mem_nil, or_false] at hm
    rcases hm with rfl | rfl
    · refine zX_catch hO hT [] [(0, 10, 17, 13)] (a1 := 0) (a2 := 10) (a3 := 13) (ct := 23) rfl (fun z hz => absurd hz List.not_mem_nil) (by decide) (by decide) zk_L_23 zka_L_23 (fun q8 => ?_)
      refine zr_astore_4 hO dL_setQuota_13 (by decide) rfl ?_
      refine zV_pc (pc' := 15) rfl ?_
      refine zr_iconst (v := 1) hO dL_setQuota_15 (by decide) ?_
      exact zr_ireturn hO hE dL_setQuota_16 (fun z9 hz9 => by subst hz9; exact zPw_x h1 hR (by decide))
    · refine zX_catch hO hT [(0, 10, 13, 23)] [] (a1 := 0) (a2 := 10) (a3 := 17) (ct := 13) rfl (fun z hz => by rw [List.mem_singleton.mp hz]; exact ⟨by decide, _, zk_L_23, by decide +kernel⟩) (by decide) (by decide) zk_L_13 zka_L_13 (fun q8 => ?_)
      refine zr_astore_4 hO dL_setQuota_17 (by decide) rfl ?_
      refine zV_pc (pc' := 19) rfl ?_
      refine zr_iconst (v := 2) hO dL_setQuota_19 (by decide) ?_
      exact zr_ireturn hO hE dL_setQuota_20 (fun z9 hz9 => by subst hz9; exact zPw_x h1 hR (by decide))
  · obtain ⟨h1, rfl, rfl, h4⟩ := h
    rcases hR : cP_setQuota A a b with q9 | E'
    rotate_left
    · rw [hR] at h4; exact absurd h4.1 (by simp)
    rw [hR] at h4
    obtain ⟨h4, rfl⟩ := h4
    cases h4
    refine zV_pc (pc' := 8) rfl ?_
    refine zr_i2l hO dL_setQuota_8 ?_
    refine zr_last hO hw (zin_i ⟨by decide, by decide⟩) dL_setQuota_9 ?_
    refine zr_goto (tgt := 21) hO dL_setQuota_10 (by decide) ?_
    refine zr_iconst (v := 0) hO dL_setQuota_21 (by decide) ?_
    exact zr_ireturn hO hE dL_setQuota_22 (fun z9 hz9 => by subst hz9; exact zPw_i h1 hR)
set_option maxRecDepth 100000 in
set_option maxHeartbeats 400000 in
theorem e_L_setPeriod {l : Launch} {G : zGm} {d n x o q w : Nat} {ly : zLy} {τ : zTu} {σ A : zSg} {a : Int32} (htr : l.stackTraces = false) (hX : ly x = (6 + 5, 2, zcr6 o q)) (hA : zC ly o) (hw : ly w = (2, 1, znr)) (hE9 : ∀ E, cP_setPeriod A a = .inr E → E ∈ LA) (hd : 8 ≤ d) : zEvH l G d 1 6 (yL_setPeriod, cL_setPeriod, 4, some .int) [(0, 9, 12, 13)] [.ref x, .int a, .ref w] (fun z => n ≤ z) ly τ (zwr σ o 95 A) (zPw n ly τ σ o w A (cP_setPeriod A a) LA) := by
  refine zEvH_of (ls := [some (.ref x), some (.int a), some (.ref w), none, none, none, none, none, none]) htr (by decide) (Nat.le_of_ble_eq_true rfl) rfl (fun X hO hE hT hRm hL hNm => ?_)
  have hO : zOk G X RL cL_setPeriod 4 := hO
  refine zr_aload_2 hO dL_setPeriod_0 ?_
  refine zr_iconst (v := 0) hO dL_setPeriod_1 (by decide) ?_
  refine zr_aload_0 hO dL_setPeriod_2 ?_
  refine zr_iload_1 hO dL_setPeriod_3 ?_
  refine zV_pc (pc' := 4) rfl ?_
  refine z_callV (As := [.int a]) hO hRm hL (by omega) (by decide) (c := 6) (by decide) hX rfl rfl (e_X6_setPeriod (d := d - 1) htr hX hA (by omega)) zl_L_25 zi_X6_setPeriod zs_X6_setPeriod zc_X6_setPeriod zn_X6 zd_X6_setPeriod (Nat.le_of_ble_eq_true rfl) dL_setPeriod_4 (by omega) (by omega) (fun E9 z ly9 τ9 σ9 h => ?_) (fun v9 z ly9 τ9 σ9 h => ?_)
  · obtain ⟨h1, rfl, rfl, h4⟩ := h
    rcases hR : cP_setPeriod A a with q9 | E'
    · rw [hR] at h4; exact absurd h4.1 (by simp)
    rw [hR] at h4
    obtain ⟨h4, rfl⟩ := h4
    cases h4
    have hm := hE9 _ hR
    simp only [LA, List.mem_cons, List.not_mem_nil, or_false] at hm
    subst hm
    · refine zX_catch hO hT [] [] (a1 := 0) (a2 := 9) (a3 := 12) (ct := 13) rfl (fun z hz => absurd hz List.not_mem_nil) (by decide) (by decide) zk_L_13 zka_L_13 (fun q8 => ?_)
      refine zr_astore_3 hO dL_setPeriod_12 (by decide) rfl ?_
      refine zV_pc (pc' := 13) rfl ?_
      refine zr_iconst (v := 1) hO dL_setPeriod_13 (by decide) ?_
      exact zr_ireturn hO hE dL_setPeriod_14 (fun z9 hz9 => by subst hz9; exact zPw_x h1 hR (by decide))
  · obtain ⟨h1, rfl, rfl, h4⟩ := h
    rcases hR : cP_setPeriod A a with q9 | E'
    rotate_left
    · rw [hR] at h4; exact absurd h4.1 (by simp)
    rw [hR] at h4
    obtain ⟨h4, rfl⟩ := h4
    cases h4
    refine zV_pc (pc' := 7) rfl ?_
    refine zr_i2l hO dL_setPeriod_7 ?_
    refine zr_last hO hw (zin_i ⟨by decide, by decide⟩) dL_setPeriod_8 ?_
    refine zr_goto (tgt := 15) hO dL_setPeriod_9 (by decide) ?_
    refine zr_iconst (v := 0) hO dL_setPeriod_15 (by decide) ?_
    exact zr_ireturn hO hE dL_setPeriod_16 (fun z9 hz9 => by subst hz9; exact zPw_i h1 hR)
set_option maxRecDepth 100000 in
set_option maxHeartbeats 400000 in
theorem e_L_addTask {l : Launch} {G : zGm} {d n x o q w : Nat} {ly : zLy} {τ : zTu} {σ A : zSg} {a b c : Int32} (htr : l.stackTraces = false) (hX : ly x = (6 + 5, 2, zcr6 o q)) (hA : zC ly o) (hw : ly w = (2, 1, znr)) (hE9 : ∀ E, cP_addTask A a b c = .inr E → E ∈ LAS) (hd : 8 ≤ d) : zEvH l G d 1 6 (yL_addTask, cL_addTask, 6, some .int) [(0, 12, 15, 13), (0, 12, 19, 31)] [.ref x, .int a, .int b, .int c, .ref w] (fun z => n ≤ z) ly τ (zwr σ o 95 A) (zPw n ly τ σ o w A (cP_addTask A a b c) LAS) := by
  refine zEvH_of (ls := [some (.ref x), some (.int a), some (.int b), some (.int c), some (.ref w), none, none, none, none]) htr (by decide) (Nat.le_of_ble_eq_true rfl) rfl (fun X hO hE hT hRm hL hNm => ?_)
  have hO : zOk G X RL cL_addTask 6 := hO
  refine zr_aload_4 hO dL_addTask_0 ?_
  refine zr_iconst (v := 0) hO dL_addTask_2 (by decide) ?_
  refine zr_aload_0 hO dL_addTask_3 ?_
  refine zr_iload_1 hO dL_addTask_4 ?_
  refine zr_iload_2 hO dL_addTask_5 ?_
  refine zr_iload_3 hO dL_addTask_6 ?_
  refine zV_pc (pc' := 7) rfl ?_
  refine z_callV (As := [.int a, .int b, .int c]) hO hRm hL (by omega) (by decide) (c := 6) (by decide) hX rfl rfl (e_X6_addTask (d := d - 1) htr hX hA (by omega)) zl_L_28 zi_X6_addTask zs_X6_addTask zc_X6_addTask zn_X6 zd_X6_addTask (Nat.le_of_ble_eq_true rfl) dL_addTask_7 (by omega) (by omega) (fun E9 z ly9 τ9 σ9 h => ?_) (fun v9 z ly9 τ9 σ9 h => ?_)
  · obtain ⟨h1, rfl, rfl, h4⟩ := h
    rcases hR : cP_addTask A a b c with q9 | E'
    · rw [hR] at h4; exact absurd h4.1 (by simp)
    rw [hR] at h4
    obtain ⟨h4, rfl⟩ := h4
    cases h4
    have hm := hE9 _ hR
    simp only [LAS, List.mem_cons, List.not_mem_nil, or_false] at hm
    rcases hm with rfl | rfl
    · refine zX_catch hO hT [] [(0, 12, 19, 31)] (a1 := 0) (a2 := 12) (a3 := 15) (ct := 13) rfl (fun z hz => absurd hz List.not_mem_nil) (by decide) (by decide) zk_L_13 zka_L_13 (fun q8 => ?_)
      refine zr_astore_5 hO dL_addTask_15 (by decide) rfl ?_
      refine zV_pc (pc' := 17) rfl ?_
      refine zr_iconst (v := 1) hO dL_addTask_17 (by decide) ?_
      exact zr_ireturn hO hE dL_addTask_18 (fun z9 hz9 => by subst hz9; exact zPw_x h1 hR (by decide))
    · refine zX_catch hO hT [(0, 12, 15, 13)] [] (a1 := 0) (a2 := 12) (a3 := 19) (ct := 31) rfl (fun z hz => by rw [List.mem_singleton.mp hz]; exact ⟨by decide, _, zk_L_13, by decide +kernel⟩) (by decide) (by decide) zk_L_31 zka_L_31 (fun q8 => ?_)
      refine zr_astore_5 hO dL_addTask_19 (by decide) rfl ?_
      refine zV_pc (pc' := 21) rfl ?_
      refine zr_iconst (v := 2) hO dL_addTask_21 (by decide) ?_
      exact zr_ireturn hO hE dL_addTask_22 (fun z9 hz9 => by subst hz9; exact zPw_x h1 hR (by decide))
  · obtain ⟨h1, rfl, rfl, h4⟩ := h
    rcases hR : cP_addTask A a b c with q9 | E'
    rotate_left
    · rw [hR] at h4; exact absurd h4.1 (by simp)
    rw [hR] at h4
    obtain ⟨h4, rfl⟩ := h4
    cases h4
    refine zV_pc (pc' := 10) rfl ?_
    refine zr_i2l hO dL_addTask_10 ?_
    refine zr_last hO hw (zin_i ⟨by decide, by decide⟩) dL_addTask_11 ?_
    refine zr_goto (tgt := 23) hO dL_addTask_12 (by decide) ?_
    refine zr_iconst (v := 0) hO dL_addTask_23 (by decide) ?_
    exact zr_ireturn hO hE dL_addTask_24 (fun z9 hz9 => by subst hz9; exact zPw_i h1 hR)
set_option maxRecDepth 100000 in
set_option maxHeartbeats 400000 in
theorem e_L_addStep {l : Launch} {G : zGm} {d n x o q w : Nat} {ly : zLy} {τ : zTu} {σ A : zSg} {a b c : Int32} (htr : l.stackTraces = false) (hX : ly x = (6 + 5, 2, zcr6 o q)) (hA : zC ly o) (hw : ly w = (2, 1, znr)) (hE9 : ∀ E, cP_addStep A a b c = .inr E → E ∈ LXAS) (hd : 8 ≤ d) : zEvH l G d 1 6 (yL_addStep, cL_addStep, 6, some .int) [(0, 12, 15, 23), (0, 12, 19, 13), (0, 12, 23, 31)] [.ref x, .int a, .int b, .int c, .ref w] (fun z => n ≤ z) ly τ (zwr σ o 95 A) (zPw n ly τ σ o w A (cP_addStep A a b c) LXAS) := by
  refine zEvH_of (ls := [some (.ref x), some (.int a), some (.int b), some (.int c), some (.ref w), none, none, none, none]) htr (by decide) (Nat.le_of_ble_eq_true rfl) rfl (fun X hO hE hT hRm hL hNm => ?_)
  have hO : zOk G X RL cL_addStep 6 := hO
  refine zr_aload_4 hO dL_addStep_0 ?_
  refine zr_iconst (v := 0) hO dL_addStep_2 (by decide) ?_
  refine zr_aload_0 hO dL_addStep_3 ?_
  refine zr_iload_1 hO dL_addStep_4 ?_
  refine zr_iload_2 hO dL_addStep_5 ?_
  refine zr_iload_3 hO dL_addStep_6 ?_
  refine zV_pc (pc' := 7) rfl ?_
  refine z_callV (As := [.int a, .int b, .int c]) hO hRm hL (by omega) (by decide) (c := 6) (by decide) hX rfl rfl (e_X6_addStep (d := d - 1) htr hX hA (by omega)) zl_L_33 zi_X6_addStep zs_X6_addStep zc_X6_addStep zn_X6 zd_X6_addStep (Nat.le_of_ble_eq_true rfl) dL_addStep_7 (by omega) (by omega) (fun E9 z ly9 τ9 σ9 h => ?_) (fun v9 z ly9 τ9 σ9 h => ?_)
  · obtain ⟨h1, rfl, rfl, h4⟩ := h
    rcases hR : cP_addStep A a b c with q9 | E'
    · rw [hR] at h4; exact absurd h4.1 (by simp)
    rw [hR] at h4
    obtain ⟨h4, rfl⟩ := h4
    cases h4
    have hm := hE9 _ hR
    simp only [LXAS, List.mem_cons, List.not_mem_nil, or_false] at hm
    rcases hm with rfl | rfl | rfl
    · refine zX_catch hO hT [] [(0, 12, 19, 13), (0, 12, 23, 31)] (a1 := 0) (a2 := 12) (a3 := 15) (ct := 23) rfl (fun z hz => absurd hz List.not_mem_nil) (by decide) (by decide) zk_L_23 zka_L_23 (fun q8 => ?_)
      refine zr_astore_5 hO dL_addStep_15 (by decide) rfl ?_
      refine zV_pc (pc' := 17) rfl ?_
      refine zr_iconst (v := 1) hO dL_addStep_17 (by decide) ?_
      exact zr_ireturn hO hE dL_addStep_18 (fun z9 hz9 => by subst hz9; exact zPw_x h1 hR (by decide))
    · refine zX_catch hO hT [(0, 12, 15, 23)] [(0, 12, 23, 31)] (a1 := 0) (a2 := 12) (a3 := 19) (ct := 13) rfl (fun z hz => by rw [List.mem_singleton.mp hz]; exact ⟨by decide, _, zk_L_23, by decide +kernel⟩) (by decide) (by decide) zk_L_13 zka_L_13 (fun q8 => ?_)
      refine zr_astore_5 hO dL_addStep_19 (by decide) rfl ?_
      refine zV_pc (pc' := 21) rfl ?_
      refine zr_iconst (v := 2) hO dL_addStep_21 (by decide) ?_
      exact zr_ireturn hO hE dL_addStep_22 (fun z9 hz9 => by subst hz9; exact zPw_x h1 hR (by decide))
    · refine zX_catch hO hT [(0, 12, 15, 23), (0, 12, 19, 13)] [] (a1 := 0) (a2 := 12) (a3 := 23) (ct := 31) rfl (fun z hz => by rcases List.mem_cons.mp hz with rfl | hz; exact ⟨by decide, _, zk_L_23, by decide +kernel⟩; rw [List.mem_singleton.mp hz]; exact ⟨by decide, _, zk_L_13, by decide +kernel⟩) (by decide) (by decide) zk_L_31 zka_L_31 (fun q8 => ?_)
      refine zr_astore_5 hO dL_addStep_23 (by decide) rfl ?_
      refine zV_pc (pc' := 25) rfl ?_
      refine zr_iconst (v := 3) hO dL_addStep_25 (by decide) ?_
      exact zr_ireturn hO hE dL_addStep_26 (fun z9 hz9 => by subst hz9; exact zPw_x h1 hR (by decide))
  · obtain ⟨h1, rfl, rfl, h4⟩ := h
    rcases hR : cP_addStep A a b c with q9 | E'
    rotate_left
    · rw [hR] at h4; exact absurd h4.1 (by simp)
    rw [hR] at h4
    obtain ⟨h4, rfl⟩ := h4
    cases h4
    refine zV_pc (pc' := 10) rfl ?_
    refine zr_i2l hO dL_addStep_10 ?_
    refine zr_last hO hw (zin_i ⟨by decide, by decide⟩) dL_addStep_11 ?_
    refine zr_goto (tgt := 27) hO dL_addStep_12 (by decide) ?_
    refine zr_iconst (v := 0) hO dL_addStep_27 (by decide) ?_
    exact zr_ireturn hO hE dL_addStep_28 (fun z9 hz9 => by subst hz9; exact zPw_i h1 hR)
set_option maxRecDepth 100000 in
set_option maxHeartbeats 400000 in
theorem e_L_start {l : Launch} {G : zGm} {d n x o q w : Nat} {ly : zLy} {τ : zTu} {σ A : zSg} {a : Int32} (htr : l.stackTraces = false) (hX : ly x = (6 + 5, 2, zcr6 o q)) (hA : zC ly o) (hw : ly w = (2, 1, znr)) (hE9 : ∀ E, cP_start A a = .inr E → E ∈ LXS) (hd : 8 ≤ d) : zEvH l G d 1 6 (yL_start, cL_start, 4, some .int) [(0, 9, 12, 23), (0, 9, 15, 31)] [.ref x, .int a, .ref w] (fun z => n ≤ z) ly τ (zwr σ o 95 A) (zPw n ly τ σ o w A (cP_start A a) LXS) := by
  refine zEvH_of (ls := [some (.ref x), some (.int a), some (.ref w), none, none, none, none, none, none]) htr (by decide) (Nat.le_of_ble_eq_true rfl) rfl (fun X hO hE hT hRm hL hNm => ?_)
  have hO : zOk G X RL cL_start 4 := hO
  refine zr_aload_2 hO dL_start_0 ?_
  refine zr_iconst (v := 0) hO dL_start_1 (by decide) ?_
  refine zr_aload_0 hO dL_start_2 ?_
  refine zr_iload_1 hO dL_start_3 ?_
  refine zV_pc (pc' := 4) rfl ?_
  refine z_callV (As := [.int a]) hO hRm hL (by omega) (by decide) (c := 6) (by decide) hX rfl rfl (e_X6_start (d := d - 1) htr hX hA (by omega)) zl_L_36 zi_X6_start zs_X6_start zc_X6_start zn_X6 zd_X6_start (Nat.le_of_ble_eq_true rfl) dL_start_4 (by omega) (by omega) (fun E9 z ly9 τ9 σ9 h => ?_) (fun v9 z ly9 τ9 σ9 h => ?_)
  · obtain ⟨h1, rfl, rfl, h4⟩ := h
    rcases hR : cP_start A a with q9 | E'
    · rw [hR] at h4; exact absurd h4.1 (by simp)
    rw [hR] at h4
    obtain ⟨h4, rfl⟩ := h4
    cases h4
    have hm := hE9 _ hR
    simp only [LXS, List.mem_cons, List.not_mem_nil, or_false] at hm
    rcases hm with rfl | rfl
    · refine zX_catch hO hT [] [(0, 9, 15, 31)] (a1 := 0) (a2 := 9) (a3 := 12) (ct := 23) rfl (fun z hz => absurd hz List.not_mem_nil) (by decide) (by decide) zk_L_23 zka_L_23 (fun q8 => ?_)
      refine zr_astore_3 hO dL_start_12 (by decide) rfl ?_
      refine zV_pc (pc' := 13) rfl ?_
      refine zr_iconst (v := 1) hO dL_start_13 (by decide) ?_
      exact zr_ireturn hO hE dL_start_14 (fun z9 hz9 => by subst hz9; exact zPw_x h1 hR (by decide))
    · refine zX_catch hO hT [(0, 9, 12, 23)] [] (a1 := 0) (a2 := 9) (a3 := 15) (ct := 31) rfl (fun z hz => by rw [List.mem_singleton.mp hz]; exact ⟨by decide, _, zk_L_23, by decide +kernel⟩) (by decide) (by decide) zk_L_31 zka_L_31 (fun q8 => ?_)
      refine zr_astore_3 hO dL_start_15 (by decide) rfl ?_
      refine zV_pc (pc' := 16) rfl ?_
      refine zr_iconst (v := 2) hO dL_start_16 (by decide) ?_
      exact zr_ireturn hO hE dL_start_17 (fun z9 hz9 => by subst hz9; exact zPw_x h1 hR (by decide))
  · obtain ⟨h1, rfl, rfl, h4⟩ := h
    rcases hR : cP_start A a with q9 | E'
    rotate_left
    · rw [hR] at h4; exact absurd h4.1 (by simp)
    rw [hR] at h4
    obtain ⟨h4, rfl⟩ := h4
    cases h4
    refine zV_pc (pc' := 7) rfl ?_
    refine zr_i2l hO dL_start_7 ?_
    refine zr_last hO hw (zin_i ⟨by decide, by decide⟩) dL_start_8 ?_
    refine zr_goto (tgt := 18) hO dL_start_9 (by decide) ?_
    refine zr_iconst (v := 0) hO dL_start_18 (by decide) ?_
    exact zr_ireturn hO hE dL_start_19 (fun z9 hz9 => by subst hz9; exact zPw_i h1 hR)
set_option maxRecDepth 100000 in
set_option maxHeartbeats 400000 in
theorem e_L_setRank {l : Launch} {G : zGm} {d n x o q w : Nat} {ly : zLy} {τ : zTu} {σ A : zSg} {a b : Int32} (htr : l.stackTraces = false) (hX : ly x = (6 + 5, 2, zcr6 o q)) (hA : zC ly o) (hw : ly w = (2, 1, znr)) (hE9 : ∀ E, cP_setRank A a b = .inr E → E ∈ LXA) (hd : 8 ≤ d) : zEvH l G d 1 6 (yL_setRank, cL_setRank, 5, some .int) [(0, 10, 13, 23), (0, 10, 17, 13)] [.ref x, .int a, .int b, .ref w] (fun z => n ≤ z) ly τ (zwr σ o 95 A) (zPw n ly τ σ o w A (cP_setRank A a b) LXA) := by
  refine zEvH_of (ls := [some (.ref x), some (.int a), some (.int b), some (.ref w), none, none, none, none, none]) htr (by decide) (Nat.le_of_ble_eq_true rfl) rfl (fun X hO hE hT hRm hL hNm => ?_)
  have hO : zOk G X RL cL_setRank 5 := hO
  refine zr_aload_3 hO dL_setRank_0 ?_
  refine zr_iconst (v := 0) hO dL_setRank_1 (by decide) ?_
  refine zr_aload_0 hO dL_setRank_2 ?_
  refine zr_iload_1 hO dL_setRank_3 ?_
  refine zr_iload_2 hO dL_setRank_4 ?_
  refine zV_pc (pc' := 5) rfl ?_
  refine z_callV (As := [.int a, .int b]) hO hRm hL (by omega) (by decide) (c := 6) (by decide) hX rfl rfl (e_X6_setRank (d := d - 1) htr hX hA (by omega)) zl_L_39 zi_X6_setRank zs_X6_setRank zc_X6_setRank zn_X6 zd_X6_setRank (Nat.le_of_ble_eq_true rfl) dL_setRank_5 (by omega) (by omega) (fun E9 z ly9 τ9 σ9 h => ?_) (fun v9 z ly9 τ9 σ9 h => ?_)
  · obtain ⟨h1, rfl, rfl, h4⟩ := h
    rcases hR : cP_setRank A a b with q9 | E'
    · rw [hR] at h4; exact absurd h4.1 (by simp)
    rw [hR] at h4
    obtain ⟨h4, rfl⟩ := h4
    cases h4
    have hm := hE9 _ hR
    simp only [LXA, List.mem_cons, List.not_mem_nil, or_false] at hm
    rcases hm with rfl | rfl
    · refine zX_catch hO hT [] [(0, 10, 17, 13)] (a1 := 0) (a2 := 10) (a3 := 13) (ct := 23) rfl (fun z hz => absurd hz List.not_mem_nil) (by decide) (by decide) zk_L_23 zka_L_23 (fun q8 => ?_)
      refine zr_astore_4 hO dL_setRank_13 (by decide) rfl ?_
      refine zV_pc (pc' := 15) rfl ?_
      refine zr_iconst (v := 1) hO dL_setRank_15 (by decide) ?_
      exact zr_ireturn hO hE dL_setRank_16 (fun z9 hz9 => by subst hz9; exact zPw_x h1 hR (by decide))
    · refine zX_catch hO hT [(0, 10, 13, 23)] [] (a1 := 0) (a2 := 10) (a3 := 17) (ct := 13) rfl (fun z hz => by rw [List.mem_singleton.mp hz]; exact ⟨by decide, _, zk_L_23, by decide +kernel⟩) (by decide) (by decide) zk_L_13 zka_L_13 (fun q8 => ?_)
      refine zr_astore_4 hO dL_setRank_17 (by decide) rfl ?_
      refine zV_pc (pc' := 19) rfl ?_
      refine zr_iconst (v := 2) hO dL_setRank_19 (by decide) ?_
      exact zr_ireturn hO hE dL_setRank_20 (fun z9 hz9 => by subst hz9; exact zPw_x h1 hR (by decide))
  · obtain ⟨h1, rfl, rfl, h4⟩ := h
    rcases hR : cP_setRank A a b with q9 | E'
    rotate_left
    · rw [hR] at h4; exact absurd h4.1 (by simp)
    rw [hR] at h4
    obtain ⟨h4, rfl⟩ := h4
    cases h4
    refine zV_pc (pc' := 8) rfl ?_
    refine zr_i2l hO dL_setRank_8 ?_
    refine zr_last hO hw (zin_i ⟨by decide, by decide⟩) dL_setRank_9 ?_
    refine zr_goto (tgt := 21) hO dL_setRank_10 (by decide) ?_
    refine zr_iconst (v := 0) hO dL_setRank_21 (by decide) ?_
    exact zr_ireturn hO hE dL_setRank_22 (fun z9 hz9 => by subst hz9; exact zPw_i h1 hR)
set_option maxRecDepth 100000 in
set_option maxHeartbeats 400000 in
theorem e_L_end {l : Launch} {G : zGm} {d n x o q w : Nat} {ly : zLy} {τ : zTu} {σ A : zSg} {a : Int32} (htr : l.stackTraces = false) (hX : ly x = (6 + 5, 2, zcr6 o q)) (hA : zC ly o) (hw : ly w = (2, 1, znr)) (hE9 : ∀ E, cP_end A a = .inr E → E ∈ LXS) (hd : 8 ≤ d) : zEvH l G d 1 6 (yL_end, cL_end, 4, some .int) [(0, 9, 12, 23), (0, 9, 15, 31)] [.ref x, .int a, .ref w] (fun z => n ≤ z) ly τ (zwr σ o 95 A) (zPw n ly τ σ o w A (cP_end A a) LXS) := by
  refine zEvH_of (ls := [some (.ref x), some (.int a), some (.ref w), none, none, none, none, none, none]) htr (by decide) (Nat.le_of_ble_eq_true rfl) rfl (fun X hO hE hT hRm hL hNm => ?_)
  have hO : zOk G X RL cL_end 4 := hO
  refine zr_aload_2 hO dL_end_0 ?_
  refine zr_iconst (v := 0) hO dL_end_1 (by decide) ?_
  refine zr_aload_0 hO dL_end_2 ?_
  refine zr_iload_1 hO dL_end_3 ?_
  refine zV_pc (pc' := 4) rfl ?_
  refine z_callV (As := [.int a]) hO hRm hL (by omega) (by decide) (c := 6) (by decide) hX rfl rfl (e_X6_end (d := d - 1) htr hX hA (by omega)) zl_L_42 zi_X6_end zs_X6_end zc_X6_end zn_X6 zd_X6_end (Nat.le_of_ble_eq_true rfl) dL_end_4 (by omega) (by omega) (fun E9 z ly9 τ9 σ9 h => ?_) (fun v9 z ly9 τ9 σ9 h => ?_)
  · obtain ⟨h1, rfl, rfl, h4⟩ := h
    rcases hR : cP_end A a with q9 | E'
    · rw [hR] at h4; exact absurd h4.1 (by simp)
    rw [hR] at h4
    obtain ⟨h4, rfl⟩ := h4
    cases h4
    have hm := hE9 _ hR
    simp only [LXS, List.mem_cons, List.not_mem_nil, or_false] at hm
    rcases hm with rfl | rfl
    · refine zX_catch hO hT [] [(0, 9, 15, 31)] (a1 := 0) (a2 := 9) (a3 := 12) (ct := 23) rfl (fun z hz => absurd hz List.not_mem_nil) (by decide) (by decide) zk_L_23 zka_L_23 (fun q8 => ?_)
      refine zr_astore_3 hO dL_end_12 (by decide) rfl ?_
      refine zV_pc (pc' := 13) rfl ?_
      refine zr_iconst (v := 1) hO dL_end_13 (by decide) ?_
      exact zr_ireturn hO hE dL_end_14 (fun z9 hz9 => by subst hz9; exact zPw_x h1 hR (by decide))
    · refine zX_catch hO hT [(0, 9, 12, 23)] [] (a1 := 0) (a2 := 9) (a3 := 15) (ct := 31) rfl (fun z hz => by rw [List.mem_singleton.mp hz]; exact ⟨by decide, _, zk_L_23, by decide +kernel⟩) (by decide) (by decide) zk_L_31 zka_L_31 (fun q8 => ?_)
      refine zr_astore_3 hO dL_end_15 (by decide) rfl ?_
      refine zV_pc (pc' := 16) rfl ?_
      refine zr_iconst (v := 2) hO dL_end_16 (by decide) ?_
      exact zr_ireturn hO hE dL_end_17 (fun z9 hz9 => by subst hz9; exact zPw_x h1 hR (by decide))
  · obtain ⟨h1, rfl, rfl, h4⟩ := h
    rcases hR : cP_end A a with q9 | E'
    rotate_left
    · rw [hR] at h4; exact absurd h4.1 (by simp)
    rw [hR] at h4
    obtain ⟨h4, rfl⟩ := h4
    cases h4
    refine zV_pc (pc' := 7) rfl ?_
    refine zr_i2l hO dL_end_7 ?_
    refine zr_last hO hw (zin_i ⟨by decide, by decide⟩) dL_end_8 ?_
    refine zr_goto (tgt := 18) hO dL_end_9 (by decide) ?_
    refine zr_iconst (v := 0) hO dL_end_18 (by decide) ?_
    exact zr_ireturn hO hE dL_end_19 (fun z9 hz9 => by subst hz9; exact zPw_i h1 hR)
set_option maxRecDepth 100000 in
set_option maxHeartbeats 400000 in
theorem e_L_signal {l : Launch} {G : zGm} {d n x o q w : Nat} {ly : zLy} {τ : zTu} {σ A : zSg} {a : Int32} (htr : l.stackTraces = false) (hX : ly x = (6 + 5, 2, zcr6 o q)) (hA : zC ly o) (hw : ly w = (2, 1, znr)) (hE9 : ∀ E, cP_signal A a = .inr E → E ∈ LX) (hd : 8 ≤ d) : zEvH l G d 1 6 (yL_signal, cL_signal, 4, some .int) [(0, 9, 12, 23)] [.ref x, .int a, .ref w] (fun z => n ≤ z) ly τ (zwr σ o 95 A) (zPw n ly τ σ o w A (cP_signal A a) LX) := by
  refine zEvH_of (ls := [some (.ref x), some (.int a), some (.ref w), none, none, none, none, none, none]) htr (by decide) (Nat.le_of_ble_eq_true rfl) rfl (fun X hO hE hT hRm hL hNm => ?_)
  have hO : zOk G X RL cL_signal 4 := hO
  refine zr_aload_2 hO dL_signal_0 ?_
  refine zr_iconst (v := 0) hO dL_signal_1 (by decide) ?_
  refine zr_aload_0 hO dL_signal_2 ?_
  refine zr_iload_1 hO dL_signal_3 ?_
  refine zV_pc (pc' := 4) rfl ?_
  refine z_callV (As := [.int a]) hO hRm hL (by omega) (by decide) (c := 6) (by decide) hX rfl rfl (e_X6_signal (d := d - 1) htr hX hA (by omega)) zl_L_45 zi_X6_signal zs_X6_signal zc_X6_signal zn_X6 zd_X6_signal (Nat.le_of_ble_eq_true rfl) dL_signal_4 (by omega) (by omega) (fun E9 z ly9 τ9 σ9 h => ?_) (fun v9 z ly9 τ9 σ9 h => ?_)
  · obtain ⟨h1, rfl, rfl, h4⟩ := h
    rcases hR : cP_signal A a with q9 | E'
    · rw [hR] at h4; exact absurd h4.1 (by simp)
    rw [hR] at h4
    obtain ⟨h4, rfl⟩ := h4
    cases h4
    have hm := hE9 _ hR
    simp only [LX, List.mem_cons, List.not_mem_nil, or_false] at hm
    subst hm
    · refine zX_catch hO hT [] [] (a1 := 0) (a2 := 9) (a3 := 12) (ct := 23) rfl (fun z hz => absurd hz List.not_mem_nil) (by decide) (by decide) zk_L_23 zka_L_23 (fun q8 => ?_)
      refine zr_astore_3 hO dL_signal_12 (by decide) rfl ?_
      refine zV_pc (pc' := 13) rfl ?_
      refine zr_iconst (v := 1) hO dL_signal_13 (by decide) ?_
      exact zr_ireturn hO hE dL_signal_14 (fun z9 hz9 => by subst hz9; exact zPw_x h1 hR (by decide))
  · obtain ⟨h1, rfl, rfl, h4⟩ := h
    rcases hR : cP_signal A a with q9 | E'
    rotate_left
    · rw [hR] at h4; exact absurd h4.1 (by simp)
    rw [hR] at h4
    obtain ⟨h4, rfl⟩ := h4
    cases h4
    refine zV_pc (pc' := 7) rfl ?_
    refine zr_i2l hO dL_signal_7 ?_
    refine zr_last hO hw (zin_i ⟨by decide, by decide⟩) dL_signal_8 ?_
    refine zr_goto (tgt := 15) hO dL_signal_9 (by decide) ?_
    refine zr_iconst (v := 0) hO dL_signal_15 (by decide) ?_
    exact zr_ireturn hO hE dL_signal_16 (fun z9 hz9 => by subst hz9; exact zPw_i h1 hR)
set_option maxRecDepth 100000 in
set_option maxHeartbeats 400000 in
theorem e_L_tick {l : Launch} {G : zGm} {d n x o q w : Nat} {ly : zLy} {τ : zTu} {σ A : zSg} {a : Int32} (htr : l.stackTraces = false) (hX : ly x = (6 + 5, 2, zcr6 o q)) (hA : zC ly o) (hw : ly w = (2, 1, znr)) (hE9 : ∀ E, cP_tick A a = .inr E → E ∈ LA) (hd : 8 ≤ d) : zEvH l G d 1 6 (yL_tick, cL_tick, 4, some .int) [(0, 9, 12, 13)] [.ref x, .int a, .ref w] (fun z => n ≤ z) ly τ (zwr σ o 95 A) (zPw n ly τ σ o w A (cP_tick A a) LA) := by
  refine zEvH_of (ls := [some (.ref x), some (.int a), some (.ref w), none, none, none, none, none, none]) htr (by decide) (Nat.le_of_ble_eq_true rfl) rfl (fun X hO hE hT hRm hL hNm => ?_)
  have hO : zOk G X RL cL_tick 4 := hO
  refine zr_aload_2 hO dL_tick_0 ?_
  refine zr_iconst (v := 0) hO dL_tick_1 (by decide) ?_
  refine zr_aload_0 hO dL_tick_2 ?_
  refine zr_iload_1 hO dL_tick_3 ?_
  refine zV_pc (pc' := 4) rfl ?_
  refine z_callV (As := [.int a]) hO hRm hL (by omega) (by decide) (c := 6) (by decide) hX rfl rfl (e_X6_tick (d := d - 1) htr hX hA (by omega)) zl_L_48 zi_X6_tick zs_X6_tick zc_X6_tick zn_X6 zd_X6_tick (Nat.le_of_ble_eq_true rfl) dL_tick_4 (by omega) (by omega) (fun E9 z ly9 τ9 σ9 h => ?_) (fun v9 z ly9 τ9 σ9 h => ?_)
  · obtain ⟨h1, rfl, rfl, h4⟩ := h
    rcases hR : cP_tick A a with q9 | E'
    · rw [hR] at h4; exact absurd h4.1 (by simp)
    rw [hR] at h4
    obtain ⟨h4, rfl⟩ := h4
    cases h4
    have hm := hE9 _ hR
    simp only [LA, List.mem_cons, List.not_mem_nil, or_false] at hm
    subst hm
    · refine zX_catch hO hT [] [] (a1 := 0) (a2 := 9) (a3 := 12) (ct := 13) rfl (fun z hz => absurd hz List.not_mem_nil) (by decide) (by decide) zk_L_13 zka_L_13 (fun q8 => ?_)
      refine zr_astore_3 hO dL_tick_12 (by decide) rfl ?_
      refine zV_pc (pc' := 13) rfl ?_
      refine zr_iconst (v := 1) hO dL_tick_13 (by decide) ?_
      exact zr_ireturn hO hE dL_tick_14 (fun z9 hz9 => by subst hz9; exact zPw_x h1 hR (by decide))
  · obtain ⟨h1, rfl, rfl, h4⟩ := h
    rcases hR : cP_tick A a with q9 | E'
    rotate_left
    · rw [hR] at h4; exact absurd h4.1 (by simp)
    rw [hR] at h4
    obtain ⟨h4, rfl⟩ := h4
    cases h4
    refine zV_pc (pc' := 7) rfl ?_
    refine zr_i2l hO dL_tick_7 ?_
    refine zr_last hO hw (zin_i ⟨by decide, by decide⟩) dL_tick_8 ?_
    refine zr_goto (tgt := 15) hO dL_tick_9 (by decide) ?_
    refine zr_iconst (v := 0) hO dL_tick_15 (by decide) ?_
    exact zr_ireturn hO hE dL_tick_16 (fun z9 hz9 => by subst hz9; exact zPw_i h1 hR)
set_option maxRecDepth 100000 in
set_option maxHeartbeats 400000 in
theorem e_L_stateOf {l : Launch} {G : zGm} {d n x o q w : Nat} {ly : zLy} {τ : zTu} {σ A : zSg} {a : Int32} (htr : l.stackTraces = false) (hX : ly x = (6 + 5, 2, zcr6 o q)) (hA : zC ly o) (hw : ly w = (2, 1, znr)) (hE9 : ∀ E, cP_of A a (fun i => A (ztk i) 5) = .inr E → E ∈ LX) (hd : 8 ≤ d) : zEvH l G d 1 6 (yL_stateOf, cL_stateOf, 4, some .int) [(0, 9, 12, 23)] [.ref x, .int a, .ref w] (fun z => n ≤ z) ly τ (zwr σ o 95 A) (zPw n ly τ σ o w A (cP_of A a (fun i => A (ztk i) 5)) LX) := by
  refine zEvH_of (ls := [some (.ref x), some (.int a), some (.ref w), none, none, none, none, none, none]) htr (by decide) (Nat.le_of_ble_eq_true rfl) rfl (fun X hO hE hT hRm hL hNm => ?_)
  have hO : zOk G X RL cL_stateOf 4 := hO
  refine zr_aload_2 hO dL_stateOf_0 ?_
  refine zr_iconst (v := 0) hO dL_stateOf_1 (by decide) ?_
  refine zr_aload_0 hO dL_stateOf_2 ?_
  refine zr_iload_1 hO dL_stateOf_3 ?_
  refine zV_pc (pc' := 4) rfl ?_
  refine z_callV (As := [.int a]) hO hRm hL (by omega) (by decide) (c := 6) (by decide) hX rfl rfl (e_X6_stateOf (d := d - 1) htr hX hA (by omega)) zl_L_51 zi_X6_stateOf zs_X6_stateOf zc_X6_stateOf zn_X6 zd_X6_stateOf (Nat.le_of_ble_eq_true rfl) dL_stateOf_4 (by omega) (by omega) (fun E9 z ly9 τ9 σ9 h => ?_) (fun v9 z ly9 τ9 σ9 h => ?_)
  · obtain ⟨h1, rfl, rfl, h4⟩ := h
    rcases hR : cP_of A a (fun i => A (ztk i) 5) with q9 | E'
    · rw [hR] at h4; exact absurd h4.1 (by simp)
    rw [hR] at h4
    obtain ⟨h4, rfl⟩ := h4
    cases h4
    have hm := hE9 _ hR
    simp only [LX, List.mem_cons, List.not_mem_nil, or_false] at hm
    subst hm
    · refine zX_catch hO hT [] [] (a1 := 0) (a2 := 9) (a3 := 12) (ct := 23) rfl (fun z hz => absurd hz List.not_mem_nil) (by decide) (by decide) zk_L_23 zka_L_23 (fun q8 => ?_)
      refine zr_astore_3 hO dL_stateOf_12 (by decide) rfl ?_
      refine zV_pc (pc' := 13) rfl ?_
      refine zr_iconst (v := 1) hO dL_stateOf_13 (by decide) ?_
      exact zr_ireturn hO hE dL_stateOf_14 (fun z9 hz9 => by subst hz9; exact zPw_x h1 hR (by decide))
  · obtain ⟨h1, rfl, rfl, h4⟩ := h
    rcases hR : cP_of A a (fun i => A (ztk i) 5) with q9 | E'
    rotate_left
    · rw [hR] at h4; exact absurd h4.1 (by simp)
    rw [hR] at h4
    obtain ⟨h4, rfl⟩ := h4
    cases h4
    refine zV_pc (pc' := 7) rfl ?_
    refine zr_i2l hO dL_stateOf_7 ?_
    refine zr_last hO hw (zin_i ⟨by decide, by decide⟩) dL_stateOf_8 ?_
    refine zr_goto (tgt := 15) hO dL_stateOf_9 (by decide) ?_
    refine zr_iconst (v := 0) hO dL_stateOf_15 (by decide) ?_
    exact zr_ireturn hO hE dL_stateOf_16 (fun z9 hz9 => by subst hz9; exact zPw_i h1 hR)
set_option maxRecDepth 100000 in
set_option maxHeartbeats 400000 in
theorem e_L_stepOf {l : Launch} {G : zGm} {d n x o q w : Nat} {ly : zLy} {τ : zTu} {σ A : zSg} {a : Int32} (htr : l.stackTraces = false) (hX : ly x = (6 + 5, 2, zcr6 o q)) (hA : zC ly o) (hw : ly w = (2, 1, znr)) (hE9 : ∀ E, cP_of A a (fun i => cF_stepOf A i) = .inr E → E ∈ LX) (hd : 8 ≤ d) : zEvH l G d 1 6 (yL_stepOf, cL_stepOf, 4, some .int) [(0, 9, 12, 23)] [.ref x, .int a, .ref w] (fun z => n ≤ z) ly τ (zwr σ o 95 A) (zPw n ly τ σ o w A (cP_of A a (fun i => cF_stepOf A i)) LX) := by
  refine zEvH_of (ls := [some (.ref x), some (.int a), some (.ref w), none, none, none, none, none, none]) htr (by decide) (Nat.le_of_ble_eq_true rfl) rfl (fun X hO hE hT hRm hL hNm => ?_)
  have hO : zOk G X RL cL_stepOf 4 := hO
  refine zr_aload_2 hO dL_stepOf_0 ?_
  refine zr_iconst (v := 0) hO dL_stepOf_1 (by decide) ?_
  refine zr_aload_0 hO dL_stepOf_2 ?_
  refine zr_iload_1 hO dL_stepOf_3 ?_
  refine zV_pc (pc' := 4) rfl ?_
  refine z_callV (As := [.int a]) hO hRm hL (by omega) (by decide) (c := 6) (by decide) hX rfl rfl (e_X6_stepOf (d := d - 1) htr hX hA (by omega)) zl_L_54 zi_X6_stepOf zs_X6_stepOf zc_X6_stepOf zn_X6 zd_X6_stepOf (Nat.le_of_ble_eq_true rfl) dL_stepOf_4 (by omega) (by omega) (fun E9 z ly9 τ9 σ9 h => ?_) (fun v9 z ly9 τ9 σ9 h => ?_)
  · obtain ⟨h1, rfl, rfl, h4⟩ := h
    rcases hR : cP_of A a (fun i => cF_stepOf A i) with q9 | E'
    · rw [hR] at h4; exact absurd h4.1 (by simp)
    rw [hR] at h4
    obtain ⟨h4, rfl⟩ := h4
    cases h4
    have hm := hE9 _ hR
    simp only [LX, List.mem_cons, List.not_mem_nil, or_false] at hm
    subst hm
    · refine zX_catch hO hT [] [] (a1 := 0) (a2 := 9) (a3 := 12) (ct := 23) rfl (fun z hz => absurd hz List.not_mem_nil) (by decide) (by decide) zk_L_23 zka_L_23 (fun q8 => ?_)
      refine zr_astore_3 hO dL_stepOf_12 (by decide) rfl ?_
      refine zV_pc (pc' := 13) rfl ?_
      refine zr_iconst (v := 1) hO dL_stepOf_13 (by decide) ?_
      exact zr_ireturn hO hE dL_stepOf_14 (fun z9 hz9 => by subst hz9; exact zPw_x h1 hR (by decide))
  · obtain ⟨h1, rfl, rfl, h4⟩ := h
    rcases hR : cP_of A a (fun i => cF_stepOf A i) with q9 | E'
    rotate_left
    · rw [hR] at h4; exact absurd h4.1 (by simp)
    rw [hR] at h4
    obtain ⟨h4, rfl⟩ := h4
    cases h4
    refine zV_pc (pc' := 7) rfl ?_
    refine zr_i2l hO dL_stepOf_7 ?_
    refine zr_last hO hw (zin_i ⟨by decide, by decide⟩) dL_stepOf_8 ?_
    refine zr_goto (tgt := 15) hO dL_stepOf_9 (by decide) ?_
    refine zr_iconst (v := 0) hO dL_stepOf_15 (by decide) ?_
    exact zr_ireturn hO hE dL_stepOf_16 (fun z9 hz9 => by subst hz9; exact zPw_i h1 hR)
set_option maxRecDepth 100000 in
set_option maxHeartbeats 400000 in
theorem e_L_roundsOf {l : Launch} {G : zGm} {d n x o q w : Nat} {ly : zLy} {τ : zTu} {σ A : zSg} {a : Int32} (htr : l.stackTraces = false) (hX : ly x = (6 + 5, 2, zcr6 o q)) (hA : zC ly o) (hw : ly w = (2, 1, znr)) (hE9 : ∀ E, cP_of A a (fun i => A (ztk i) 8) = .inr E → E ∈ LX) (hd : 8 ≤ d) : zEvH l G d 1 6 (yL_roundsOf, cL_roundsOf, 4, some .int) [(0, 9, 12, 23)] [.ref x, .int a, .ref w] (fun z => n ≤ z) ly τ (zwr σ o 95 A) (zPw n ly τ σ o w A (cP_of A a (fun i => A (ztk i) 8)) LX) := by
  refine zEvH_of (ls := [some (.ref x), some (.int a), some (.ref w), none, none, none, none, none, none]) htr (by decide) (Nat.le_of_ble_eq_true rfl) rfl (fun X hO hE hT hRm hL hNm => ?_)
  have hO : zOk G X RL cL_roundsOf 4 := hO
  refine zr_aload_2 hO dL_roundsOf_0 ?_
  refine zr_iconst (v := 0) hO dL_roundsOf_1 (by decide) ?_
  refine zr_aload_0 hO dL_roundsOf_2 ?_
  refine zr_iload_1 hO dL_roundsOf_3 ?_
  refine zV_pc (pc' := 4) rfl ?_
  refine z_callV (As := [.int a]) hO hRm hL (by omega) (by decide) (c := 6) (by decide) hX rfl rfl (e_X6_roundsOf (d := d - 1) htr hX hA (by omega)) zl_L_57 zi_X6_roundsOf zs_X6_roundsOf zc_X6_roundsOf zn_X6 zd_X6_roundsOf (Nat.le_of_ble_eq_true rfl) dL_roundsOf_4 (by omega) (by omega) (fun E9 z ly9 τ9 σ9 h => ?_) (fun v9 z ly9 τ9 σ9 h => ?_)
  · obtain ⟨h1, rfl, rfl, h4⟩ := h
    rcases hR : cP_of A a (fun i => A (ztk i) 8) with q9 | E'
    · rw [hR] at h4; exact absurd h4.1 (by simp)
    rw [hR] at h4
    obtain ⟨h4, rfl⟩ := h4
    cases h4
    have hm := hE9 _ hR
    simp only [LX, List.mem_cons, List.not_mem_nil, or_false] at hm
    subst hm
    · refine zX_catch hO hT [] [] (a1 := 0) (a2 := 9) (a3 := 12) (ct := 23) rfl (fun z hz => absurd hz List.not_mem_nil) (by decide) (by decide) zk_L_23 zka_L_23 (fun q8 => ?_)
      refine zr_astore_3 hO dL_roundsOf_12 (by decide) rfl ?_
      refine zV_pc (pc' := 13) rfl ?_
      refine zr_iconst (v := 1) hO dL_roundsOf_13 (by decide) ?_
      exact zr_ireturn hO hE dL_roundsOf_14 (fun z9 hz9 => by subst hz9; exact zPw_x h1 hR (by decide))
  · obtain ⟨h1, rfl, rfl, h4⟩ := h
    rcases hR : cP_of A a (fun i => A (ztk i) 8) with q9 | E'
    rotate_left
    · rw [hR] at h4; exact absurd h4.1 (by simp)
    rw [hR] at h4
    obtain ⟨h4, rfl⟩ := h4
    cases h4
    refine zV_pc (pc' := 7) rfl ?_
    refine zr_i2l hO dL_roundsOf_7 ?_
    refine zr_last hO hw (zin_i ⟨by decide, by decide⟩) dL_roundsOf_8 ?_
    refine zr_goto (tgt := 15) hO dL_roundsOf_9 (by decide) ?_
    refine zr_iconst (v := 0) hO dL_roundsOf_15 (by decide) ?_
    exact zr_ireturn hO hE dL_roundsOf_16 (fun z9 hz9 => by subst hz9; exact zPw_i h1 hR)
set_option maxRecDepth 100000 in
set_option maxHeartbeats 400000 in
theorem e_L_keyOf {l : Launch} {G : zGm} {d n x o q w : Nat} {ly : zLy} {τ : zTu} {σ A : zSg} {a : Int32} (htr : l.stackTraces = false) (hX : ly x = (6 + 5, 2, zcr6 o q)) (hA : zC ly o) (hw : ly w = (2, 1, znr)) (hE9 : ∀ E, cP_of A a (fun i => cF_key A i (A 1 1)) = .inr E → E ∈ LX) (hd : 8 ≤ d) : zEvH l G d 1 6 (yL_keyOf, cL_keyOf, 4, some .int) [(0, 9, 12, 23)] [.ref x, .int a, .ref w] (fun z => n ≤ z) ly τ (zwr σ o 95 A) (zPw n ly τ σ o w A (cP_of A a (fun i => cF_key A i (A 1 1))) LX) := by
  refine zEvH_of (ls := [some (.ref x), some (.int a), some (.ref w), none, none, none, none, none, none]) htr (by decide) (Nat.le_of_ble_eq_true rfl) rfl (fun X hO hE hT hRm hL hNm => ?_)
  have hO : zOk G X RL cL_keyOf 4 := hO
  refine zr_aload_2 hO dL_keyOf_0 ?_
  refine zr_iconst (v := 0) hO dL_keyOf_1 (by decide) ?_
  refine zr_aload_0 hO dL_keyOf_2 ?_
  refine zr_iload_1 hO dL_keyOf_3 ?_
  refine zV_pc (pc' := 4) rfl ?_
  refine z_callV (As := [.int a]) hO hRm hL (by omega) (by decide) (c := 6) (by decide) hX rfl rfl (e_X6_keyOf (d := d - 1) htr hX hA (by omega)) zl_L_60 zi_X6_keyOf zs_X6_keyOf zc_X6_keyOf zn_X6 zd_X6_keyOf (Nat.le_of_ble_eq_true rfl) dL_keyOf_4 (by omega) (by omega) (fun E9 z ly9 τ9 σ9 h => ?_) (fun v9 z ly9 τ9 σ9 h => ?_)
  · obtain ⟨h1, rfl, rfl, h4⟩ := h
    rcases hR : cP_of A a (fun i => cF_key A i (A 1 1)) with q9 | E'
    · rw [hR] at h4; exact absurd h4.1 (by simp)
    rw [hR] at h4
    obtain ⟨h4, rfl⟩ := h4
    cases h4
    have hm := hE9 _ hR
    simp only [LX, List.mem_cons, List.not_mem_nil, or_false] at hm
    subst hm
    · refine zX_catch hO hT [] [] (a1 := 0) (a2 := 9) (a3 := 12) (ct := 23) rfl (fun z hz => absurd hz List.not_mem_nil) (by decide) (by decide) zk_L_23 zka_L_23 (fun q8 => ?_)
      refine zr_astore_3 hO dL_keyOf_12 (by decide) rfl ?_
      refine zV_pc (pc' := 13) rfl ?_
      refine zr_iconst (v := 1) hO dL_keyOf_13 (by decide) ?_
      exact zr_ireturn hO hE dL_keyOf_14 (fun z9 hz9 => by subst hz9; exact zPw_x h1 hR (by decide))
  · obtain ⟨h1, rfl, rfl, h4⟩ := h
    rcases hR : cP_of A a (fun i => cF_key A i (A 1 1)) with q9 | E'
    rotate_left
    · rw [hR] at h4; exact absurd h4.1 (by simp)
    rw [hR] at h4
    obtain ⟨h4, rfl⟩ := h4
    cases h4
    refine zV_pc (pc' := 7) rfl ?_
    refine zr_i2l hO dL_keyOf_7 ?_
    refine zr_last hO hw (zin_i ⟨by decide, by decide⟩) dL_keyOf_8 ?_
    refine zr_goto (tgt := 15) hO dL_keyOf_9 (by decide) ?_
    refine zr_iconst (v := 0) hO dL_keyOf_15 (by decide) ?_
    exact zr_ireturn hO hE dL_keyOf_16 (fun z9 hz9 => by subst hz9; exact zPw_i h1 hR)
set_option maxRecDepth 100000 in
set_option maxHeartbeats 400000 in
theorem e_L_lentKey {l : Launch} {G : zGm} {d n x o q w : Nat} {ly : zLy} {τ : zTu} {σ A : zSg} {a : Int32} (htr : l.stackTraces = false) (hX : ly x = (6 + 5, 2, zcr6 o q)) (hA : zC ly o) (hw : ly w = (2, 1, znr)) (hE9 : ∀ E, cP_lentKey A a = .inr E → E ∈ LX) (hd : 8 ≤ d) : zEvH l G d 1 6 (yL_lentKey, cL_lentKey, 4, some .int) [(0, 9, 12, 23)] [.ref x, .int a, .ref w] (fun z => n ≤ z) ly τ (zwr σ o 95 A) (zPw n ly τ σ o w A (cP_lentKey A a) LX) := by
  refine zEvH_of (ls := [some (.ref x), some (.int a), some (.ref w), none, none, none, none, none, none]) htr (by decide) (Nat.le_of_ble_eq_true rfl) rfl (fun X hO hE hT hRm hL hNm => ?_)
  have hO : zOk G X RL cL_lentKey 4 := hO
  refine zr_aload_2 hO dL_lentKey_0 ?_
  refine zr_iconst (v := 0) hO dL_lentKey_1 (by decide) ?_
  refine zr_aload_0 hO dL_lentKey_2 ?_
  refine zr_iload_1 hO dL_lentKey_3 ?_
  refine zV_pc (pc' := 4) rfl ?_
  refine z_callV (As := [.int a]) hO hRm hL (by omega) (by decide) (c := 6) (by decide) hX rfl rfl (e_X6_lentKey (d := d - 1) htr hX hA (by omega)) zl_L_63 zi_X6_lentKey zs_X6_lentKey zc_X6_lentKey zn_X6 zd_X6_lentKey (Nat.le_of_ble_eq_true rfl) dL_lentKey_4 (by omega) (by omega) (fun E9 z ly9 τ9 σ9 h => ?_) (fun v9 z ly9 τ9 σ9 h => ?_)
  · obtain ⟨h1, rfl, rfl, h4⟩ := h
    rcases hR : cP_lentKey A a with q9 | E'
    · rw [hR] at h4; exact absurd h4.1 (by simp)
    rw [hR] at h4
    obtain ⟨h4, rfl⟩ := h4
    cases h4
    have hm := hE9 _ hR
    simp only [LX, List.mem_cons, List.not_mem_nil, or_false] at hm
    subst hm
    · refine zX_catch hO hT [] [] (a1 := 0) (a2 := 9) (a3 := 12) (ct := 23) rfl (fun z hz => absurd hz List.not_mem_nil) (by decide) (by decide) zk_L_23 zka_L_23 (fun q8 => ?_)
      refine zr_astore_3 hO dL_lentKey_12 (by decide) rfl ?_
      refine zV_pc (pc' := 13) rfl ?_
      refine zr_iconst (v := 1) hO dL_lentKey_13 (by decide) ?_
      exact zr_ireturn hO hE dL_lentKey_14 (fun z9 hz9 => by subst hz9; exact zPw_x h1 hR (by decide))
  · obtain ⟨h1, rfl, rfl, h4⟩ := h
    rcases hR : cP_lentKey A a with q9 | E'
    rotate_left
    · rw [hR] at h4; exact absurd h4.1 (by simp)
    rw [hR] at h4
    obtain ⟨h4, rfl⟩ := h4
    cases h4
    refine zV_pc (pc' := 7) rfl ?_
    refine zr_i2l hO dL_lentKey_7 ?_
    refine zr_last hO hw (zin_i ⟨by decide, by decide⟩) dL_lentKey_8 ?_
    refine zr_goto (tgt := 15) hO dL_lentKey_9 (by decide) ?_
    refine zr_iconst (v := 0) hO dL_lentKey_15 (by decide) ?_
    exact zr_ireturn hO hE dL_lentKey_16 (fun z9 hz9 => by subst hz9; exact zPw_i h1 hR)
set_option maxRecDepth 100000 in
set_option maxHeartbeats 400000 in
theorem e_L_standOf {l : Launch} {G : zGm} {d n x o q w : Nat} {ly : zLy} {τ : zTu} {σ A : zSg} {a : Int32} (htr : l.stackTraces = false) (hX : ly x = (6 + 5, 2, zcr6 o q)) (hA : zC ly o) (hw : ly w = (2, 1, znr)) (hE9 : ∀ E, cP_of A a (fun i => A (ztk i) 9) = .inr E → E ∈ LX) (hd : 8 ≤ d) : zEvH l G d 1 6 (yL_standOf, cL_standOf, 4, some .int) [(0, 9, 12, 23)] [.ref x, .int a, .ref w] (fun z => n ≤ z) ly τ (zwr σ o 95 A) (zPw n ly τ σ o w A (cP_of A a (fun i => A (ztk i) 9)) LX) := by
  refine zEvH_of (ls := [some (.ref x), some (.int a), some (.ref w), none, none, none, none, none, none]) htr (by decide) (Nat.le_of_ble_eq_true rfl) rfl (fun X hO hE hT hRm hL hNm => ?_)
  have hO : zOk G X RL cL_standOf 4 := hO
  refine zr_aload_2 hO dL_standOf_0 ?_
  refine zr_iconst (v := 0) hO dL_standOf_1 (by decide) ?_
  refine zr_aload_0 hO dL_standOf_2 ?_
  refine zr_iload_1 hO dL_standOf_3 ?_
  refine zV_pc (pc' := 4) rfl ?_
  refine z_callV (As := [.int a]) hO hRm hL (by omega) (by decide) (c := 6) (by decide) hX rfl rfl (e_X6_standOf (d := d - 1) htr hX hA (by omega)) zl_L_66 zi_X6_standOf zs_X6_standOf zc_X6_standOf zn_X6 zd_X6_standOf (Nat.le_of_ble_eq_true rfl) dL_standOf_4 (by omega) (by omega) (fun E9 z ly9 τ9 σ9 h => ?_) (fun v9 z ly9 τ9 σ9 h => ?_)
  · obtain ⟨h1, rfl, rfl, h4⟩ := h
    rcases hR : cP_of A a (fun i => A (ztk i) 9) with q9 | E'
    · rw [hR] at h4; exact absurd h4.1 (by simp)
    rw [hR] at h4
    obtain ⟨h4, rfl⟩ := h4
    cases h4
    have hm := hE9 _ hR
    simp only [LX, List.mem_cons, List.not_mem_nil, or_false] at hm
    subst hm
    · refine zX_catch hO hT [] [] (a1 := 0) (a2 := 9) (a3 := 12) (ct := 23) rfl (fun z hz => absurd hz List.not_mem_nil) (by decide) (by decide) zk_L_23 zka_L_23 (fun q8 => ?_)
      refine zr_astore_3 hO dL_standOf_12 (by decide) rfl ?_
      refine zV_pc (pc' := 13) rfl ?_
      refine zr_iconst (v := 1) hO dL_standOf_13 (by decide) ?_
      exact zr_ireturn hO hE dL_standOf_14 (fun z9 hz9 => by subst hz9; exact zPw_x h1 hR (by decide))
  · obtain ⟨h1, rfl, rfl, h4⟩ := h
    rcases hR : cP_of A a (fun i => A (ztk i) 9) with q9 | E'
    rotate_left
    · rw [hR] at h4; exact absurd h4.1 (by simp)
    rw [hR] at h4
    obtain ⟨h4, rfl⟩ := h4
    cases h4
    refine zV_pc (pc' := 7) rfl ?_
    refine zr_i2l hO dL_standOf_7 ?_
    refine zr_last hO hw (zin_i ⟨by decide, by decide⟩) dL_standOf_8 ?_
    refine zr_goto (tgt := 15) hO dL_standOf_9 (by decide) ?_
    refine zr_iconst (v := 0) hO dL_standOf_15 (by decide) ?_
    exact zr_ireturn hO hE dL_standOf_16 (fun z9 hz9 => by subst hz9; exact zPw_i h1 hR)
set_option maxRecDepth 100000 in
set_option maxHeartbeats 400000 in
theorem e_L_levelOf {l : Launch} {G : zGm} {d n x o q w : Nat} {ly : zLy} {τ : zTu} {σ A : zSg} {a : Int32} (htr : l.stackTraces = false) (hX : ly x = (6 + 5, 2, zcr6 o q)) (hA : zC ly o) (hw : ly w = (2, 1, znr)) (hE9 : ∀ E, cP_of A a (fun i => A (ztk i) 10) = .inr E → E ∈ LX) (hd : 8 ≤ d) : zEvH l G d 1 6 (yL_levelOf, cL_levelOf, 4, some .int) [(0, 9, 12, 23)] [.ref x, .int a, .ref w] (fun z => n ≤ z) ly τ (zwr σ o 95 A) (zPw n ly τ σ o w A (cP_of A a (fun i => A (ztk i) 10)) LX) := by
  refine zEvH_of (ls := [some (.ref x), some (.int a), some (.ref w), none, none, none, none, none, none]) htr (by decide) (Nat.le_of_ble_eq_true rfl) rfl (fun X hO hE hT hRm hL hNm => ?_)
  have hO : zOk G X RL cL_levelOf 4 := hO
  refine zr_aload_2 hO dL_levelOf_0 ?_
  refine zr_iconst (v := 0) hO dL_levelOf_1 (by decide) ?_
  refine zr_aload_0 hO dL_levelOf_2 ?_
  refine zr_iload_1 hO dL_levelOf_3 ?_
  refine zV_pc (pc' := 4) rfl ?_
  refine z_callV (As := [.int a]) hO hRm hL (by omega) (by decide) (c := 6) (by decide) hX rfl rfl (e_X6_levelOf (d := d - 1) htr hX hA (by omega)) zl_L_69 zi_X6_levelOf zs_X6_levelOf zc_X6_levelOf zn_X6 zd_X6_levelOf (Nat.le_of_ble_eq_true rfl) dL_levelOf_4 (by omega) (by omega) (fun E9 z ly9 τ9 σ9 h => ?_) (fun v9 z ly9 τ9 σ9 h => ?_)
  · obtain ⟨h1, rfl, rfl, h4⟩ := h
    rcases hR : cP_of A a (fun i => A (ztk i) 10) with q9 | E'
    · rw [hR] at h4; exact absurd h4.1 (by simp)
    rw [hR] at h4
    obtain ⟨h4, rfl⟩ := h4
    cases h4
    have hm := hE9 _ hR
    simp only [LX, List.mem_cons, List.not_mem_nil, or_false] at hm
    subst hm
    · refine zX_catch hO hT [] [] (a1 := 0) (a2 := 9) (a3 := 12) (ct := 23) rfl (fun z hz => absurd hz List.not_mem_nil) (by decide) (by decide) zk_L_23 zka_L_23 (fun q8 => ?_)
      refine zr_astore_3 hO dL_levelOf_12 (by decide) rfl ?_
      refine zV_pc (pc' := 13) rfl ?_
      refine zr_iconst (v := 1) hO dL_levelOf_13 (by decide) ?_
      exact zr_ireturn hO hE dL_levelOf_14 (fun z9 hz9 => by subst hz9; exact zPw_x h1 hR (by decide))
  · obtain ⟨h1, rfl, rfl, h4⟩ := h
    rcases hR : cP_of A a (fun i => A (ztk i) 10) with q9 | E'
    rotate_left
    · rw [hR] at h4; exact absurd h4.1 (by simp)
    rw [hR] at h4
    obtain ⟨h4, rfl⟩ := h4
    cases h4
    refine zV_pc (pc' := 7) rfl ?_
    refine zr_i2l hO dL_levelOf_7 ?_
    refine zr_last hO hw (zin_i ⟨by decide, by decide⟩) dL_levelOf_8 ?_
    refine zr_goto (tgt := 15) hO dL_levelOf_9 (by decide) ?_
    refine zr_iconst (v := 0) hO dL_levelOf_15 (by decide) ?_
    exact zr_ireturn hO hE dL_levelOf_16 (fun z9 hz9 => by subst hz9; exact zPw_i h1 hR)
set_option maxRecDepth 100000 in
set_option maxHeartbeats 400000 in
theorem e_L_told {l : Launch} {G : zGm} {d n x o q w : Nat} {ly : zLy} {τ : zTu} {σ A : zSg} {a b : Int32} (htr : l.stackTraces = false) (hX : ly x = (6 + 5, 2, zcr6 o q)) (hA : zC ly o) (hw : ly w = (2, 1, znr)) (hE9 : ∀ E, cP_told A a b = .inr E → E ∈ LXA) (hd : 8 ≤ d) : zEvH l G d 1 6 (yL_told, cL_told, 5, some .int) [(0, 10, 13, 23), (0, 10, 17, 13)] [.ref x, .int a, .int b, .ref w] (fun z => n ≤ z) ly τ (zwr σ o 95 A) (zPw n ly τ σ o w A (cP_told A a b) LXA) := by
  refine zEvH_of (ls := [some (.ref x), some (.int a), some (.int b), some (.ref w), none, none, none, none, none]) htr (by decide) (Nat.le_of_ble_eq_true rfl) rfl (fun X hO hE hT hRm hL hNm => ?_)
  have hO : zOk G X RL cL_told 5 := hO
  refine zr_aload_3 hO dL_told_0 ?_
  refine zr_iconst (v := 0) hO dL_told_1 (by decide) ?_
  refine zr_aload_0 hO dL_told_2 ?_
  refine zr_iload_1 hO dL_told_3 ?_
  refine zr_iload_2 hO dL_told_4 ?_
  refine zV_pc (pc' := 5) rfl ?_
  refine z_callV (As := [.int a, .int b]) hO hRm hL (by omega) (by decide) (c := 6) (by decide) hX rfl rfl (e_X6_told (d := d - 1) htr hX hA (by omega)) zl_L_72 zi_X6_told zs_X6_told zc_X6_told zn_X6 zd_X6_told (Nat.le_of_ble_eq_true rfl) dL_told_5 (by omega) (by omega) (fun E9 z ly9 τ9 σ9 h => ?_) (fun v9 z ly9 τ9 σ9 h => ?_)
  · obtain ⟨h1, rfl, rfl, h4⟩ := h
    rcases hR : cP_told A a b with q9 | E'
    · rw [hR] at h4; exact absurd h4.1 (by simp)
    rw [hR] at h4
    obtain ⟨h4, rfl⟩ := h4
    cases h4
    have hm := hE9 _ hR
    simp only [LXA, List.mem_cons, List.not_mem_nil, or_false] at hm
    rcases hm with rfl | rfl
    · refine zX_catch hO hT [] [(0, 10, 17, 13)] (a1 := 0) (a2 := 10) (a3 := 13) (ct := 23) rfl (fun z hz => absurd hz List.not_mem_nil) (by decide) (by decide) zk_L_23 zka_L_23 (fun q8 => ?_)
      refine zr_astore_4 hO dL_told_13 (by decide) rfl ?_
      refine zV_pc (pc' := 15) rfl ?_
      refine zr_iconst (v := 1) hO dL_told_15 (by decide) ?_
      exact zr_ireturn hO hE dL_told_16 (fun z9 hz9 => by subst hz9; exact zPw_x h1 hR (by decide))
    · refine zX_catch hO hT [(0, 10, 13, 23)] [] (a1 := 0) (a2 := 10) (a3 := 17) (ct := 13) rfl (fun z hz => by rw [List.mem_singleton.mp hz]; exact ⟨by decide, _, zk_L_23, by decide +kernel⟩) (by decide) (by decide) zk_L_13 zka_L_13 (fun q8 => ?_)
      refine zr_astore_4 hO dL_told_17 (by decide) rfl ?_
      refine zV_pc (pc' := 19) rfl ?_
      refine zr_iconst (v := 2) hO dL_told_19 (by decide) ?_
      exact zr_ireturn hO hE dL_told_20 (fun z9 hz9 => by subst hz9; exact zPw_x h1 hR (by decide))
  · obtain ⟨h1, rfl, rfl, h4⟩ := h
    rcases hR : cP_told A a b with q9 | E'
    rotate_left
    · rw [hR] at h4; exact absurd h4.1 (by simp)
    rw [hR] at h4
    obtain ⟨h4, rfl⟩ := h4
    cases h4
    refine zV_pc (pc' := 8) rfl ?_
    refine zr_i2l hO dL_told_8 ?_
    refine zr_last hO hw (zin_i ⟨by decide, by decide⟩) dL_told_9 ?_
    refine zr_goto (tgt := 21) hO dL_told_10 (by decide) ?_
    refine zr_iconst (v := 0) hO dL_told_21 (by decide) ?_
    exact zr_ireturn hO hE dL_told_22 (fun z9 hz9 => by subst hz9; exact zPw_i h1 hR)
set_option maxRecDepth 100000 in
set_option maxHeartbeats 400000 in
theorem e_L_on {l : Launch} {G : zGm} {d n x o q w : Nat} {ly : zLy} {τ : zTu} {σ A : zSg} {a : Int32} (htr : l.stackTraces = false) (hX : ly x = (6 + 5, 2, zcr6 o q)) (hA : zC ly o) (hw : ly w = (2, 1, znr)) (hE9 : ∀ E, cP_on A a = .inr E → E ∈ LX) (hd : 8 ≤ d) : zEvH l G d 1 6 (yL_on, cL_on, 4, some .int) [(0, 9, 12, 23)] [.ref x, .int a, .ref w] (fun z => n ≤ z) ly τ (zwr σ o 95 A) (zPw n ly τ σ o w A (cP_on A a) LX) := by
  refine zEvH_of (ls := [some (.ref x), some (.int a), some (.ref w), none, none, none, none, none, none]) htr (by decide) (Nat.le_of_ble_eq_true rfl) rfl (fun X hO hE hT hRm hL hNm => ?_)
  have hO : zOk G X RL cL_on 4 := hO
  refine zr_aload_2 hO dL_on_0 ?_
  refine zr_iconst (v := 0) hO dL_on_1 (by decide) ?_
  refine zr_aload_0 hO dL_on_2 ?_
  refine zr_iload_1 hO dL_on_3 ?_
  refine zV_pc (pc' := 4) rfl ?_
  refine z_callV (As := [.int a]) hO hRm hL (by omega) (by decide) (c := 6) (by decide) hX rfl rfl (e_X6_on (d := d - 1) htr hX hA (by omega)) zl_L_75 zi_X6_on zs_X6_on zc_X6_on zn_X6 zd_X6_on (Nat.le_of_ble_eq_true rfl) dL_on_4 (by omega) (by omega) (fun E9 z ly9 τ9 σ9 h => ?_) (fun v9 z ly9 τ9 σ9 h => ?_)
  · obtain ⟨h1, rfl, rfl, h4⟩ := h
    rcases hR : cP_on A a with q9 | E'
    · rw [hR] at h4; exact absurd h4.1 (by simp)
    rw [hR] at h4
    obtain ⟨h4, rfl⟩ := h4
    cases h4
    have hm := hE9 _ hR
    simp only [LX, List.mem_cons, List.not_mem_nil, or_false] at hm
    subst hm
    · refine zX_catch hO hT [] [] (a1 := 0) (a2 := 9) (a3 := 12) (ct := 23) rfl (fun z hz => absurd hz List.not_mem_nil) (by decide) (by decide) zk_L_23 zka_L_23 (fun q8 => ?_)
      refine zr_astore_3 hO dL_on_12 (by decide) rfl ?_
      refine zV_pc (pc' := 13) rfl ?_
      refine zr_iconst (v := 1) hO dL_on_13 (by decide) ?_
      exact zr_ireturn hO hE dL_on_14 (fun z9 hz9 => by subst hz9; exact zPw_x h1 hR (by decide))
  · obtain ⟨h1, rfl, rfl, h4⟩ := h
    rcases hR : cP_on A a with q9 | E'
    rotate_left
    · rw [hR] at h4; exact absurd h4.1 (by simp)
    rw [hR] at h4
    obtain ⟨h4, rfl⟩ := h4
    cases h4
    refine zV_pc (pc' := 7) rfl ?_
    refine zr_i2l hO dL_on_7 ?_
    refine zr_last hO hw (zin_i ⟨by decide, by decide⟩) dL_on_8 ?_
    refine zr_goto (tgt := 15) hO dL_on_9 (by decide) ?_
    refine zr_iconst (v := 0) hO dL_on_15 (by decide) ?_
    exact zr_ireturn hO hE dL_on_16 (fun z9 hz9 => by subst hz9; exact zPw_i h1 hR)
set_option maxRecDepth 100000 in
set_option maxHeartbeats 400000 in
theorem e_L_ran {l : Launch} {G : zGm} {d n x o q w : Nat} {ly : zLy} {τ : zTu} {σ A : zSg} {a b : Int32} (htr : l.stackTraces = false) (hX : ly x = (6 + 5, 2, zcr6 o q)) (hA : zC ly o) (hw : ly w = (2, 1, znr)) (hE9 : ∀ E, cP_ran A a b = .inr E → E ∈ LXA) (hd : 8 ≤ d) : zEvH l G d 1 6 (yL_ran, cL_ran, 5, some .int) [(0, 10, 13, 23), (0, 10, 17, 13)] [.ref x, .int a, .int b, .ref w] (fun z => n ≤ z) ly τ (zwr σ o 95 A) (zPw n ly τ σ o w A (cP_ran A a b) LXA) := by
  refine zEvH_of (ls := [some (.ref x), some (.int a), some (.int b), some (.ref w), none, none, none, none, none]) htr (by decide) (Nat.le_of_ble_eq_true rfl) rfl (fun X hO hE hT hRm hL hNm => ?_)
  have hO : zOk G X RL cL_ran 5 := hO
  refine zr_aload_3 hO dL_ran_0 ?_
  refine zr_iconst (v := 0) hO dL_ran_1 (by decide) ?_
  refine zr_aload_0 hO dL_ran_2 ?_
  refine zr_iload_1 hO dL_ran_3 ?_
  refine zr_iload_2 hO dL_ran_4 ?_
  refine zV_pc (pc' := 5) rfl ?_
  refine z_callV (As := [.int a, .int b]) hO hRm hL (by omega) (by decide) (c := 6) (by decide) hX rfl rfl (e_X6_ran (d := d - 1) htr hX hA (by omega)) zl_L_78 zi_X6_ran zs_X6_ran zc_X6_ran zn_X6 zd_X6_ran (Nat.le_of_ble_eq_true rfl) dL_ran_5 (by omega) (by omega) (fun E9 z ly9 τ9 σ9 h => ?_) (fun v9 z ly9 τ9 σ9 h => ?_)
  · obtain ⟨h1, rfl, rfl, h4⟩ := h
    rcases hR : cP_ran A a b with q9 | E'
    · rw [hR] at h4; exact absurd h4.1 (by simp)
    rw [hR] at h4
    obtain ⟨h4, rfl⟩ := h4
    cases h4
    have hm := hE9 _ hR
    simp only [LXA, List.mem_cons, List.not_mem_nil, or_false] at hm
    rcases hm with rfl | rfl
    · refine zX_catch hO hT [] [(0, 10, 17, 13)] (a1 := 0) (a2 := 10) (a3 := 13) (ct := 23) rfl (fun z hz => absurd hz List.not_mem_nil) (by decide) (by decide) zk_L_23 zka_L_23 (fun q8 => ?_)
      refine zr_astore_4 hO dL_ran_13 (by decide) rfl ?_
      refine zV_pc (pc' := 15) rfl ?_
      refine zr_iconst (v := 1) hO dL_ran_15 (by decide) ?_
      exact zr_ireturn hO hE dL_ran_16 (fun z9 hz9 => by subst hz9; exact zPw_x h1 hR (by decide))
    · refine zX_catch hO hT [(0, 10, 13, 23)] [] (a1 := 0) (a2 := 10) (a3 := 17) (ct := 13) rfl (fun z hz => by rw [List.mem_singleton.mp hz]; exact ⟨by decide, _, zk_L_23, by decide +kernel⟩) (by decide) (by decide) zk_L_13 zka_L_13 (fun q8 => ?_)
      refine zr_astore_4 hO dL_ran_17 (by decide) rfl ?_
      refine zV_pc (pc' := 19) rfl ?_
      refine zr_iconst (v := 2) hO dL_ran_19 (by decide) ?_
      exact zr_ireturn hO hE dL_ran_20 (fun z9 hz9 => by subst hz9; exact zPw_x h1 hR (by decide))
  · obtain ⟨h1, rfl, rfl, h4⟩ := h
    rcases hR : cP_ran A a b with q9 | E'
    rotate_left
    · rw [hR] at h4; exact absurd h4.1 (by simp)
    rw [hR] at h4
    obtain ⟨h4, rfl⟩ := h4
    cases h4
    refine zV_pc (pc' := 8) rfl ?_
    refine zr_i2l hO dL_ran_8 ?_
    refine zr_last hO hw (zin_i ⟨by decide, by decide⟩) dL_ran_9 ?_
    refine zr_goto (tgt := 21) hO dL_ran_10 (by decide) ?_
    refine zr_iconst (v := 0) hO dL_ran_21 (by decide) ?_
    exact zr_ireturn hO hE dL_ran_22 (fun z9 hz9 => by subst hz9; exact zPw_i h1 hR)
set_option maxRecDepth 100000 in
set_option maxHeartbeats 400000 in
theorem e_L_used {l : Launch} {G : zGm} {d n x o q w : Nat} {ly : zLy} {τ : zTu} {σ A : zSg} {a : Int32} (htr : l.stackTraces = false) (hX : ly x = (6 + 5, 2, zcr6 o q)) (hA : zC ly o) (hw : ly w = (2, 1, znr)) (hE9 : ∀ E, cP_used A a = .inr E → E ∈ LX) (hd : 8 ≤ d) : zEvH l G d 1 6 (yL_used, cL_used, 4, some .int) [(0, 9, 12, 23)] [.ref x, .int a, .ref w] (fun z => n ≤ z) ly τ (zwr σ o 95 A) (zPw n ly τ σ o w A (cP_used A a) LX) := by
  refine zEvH_of (ls := [some (.ref x), some (.int a), some (.ref w), none, none, none, none, none, none]) htr (by decide) (Nat.le_of_ble_eq_true rfl) rfl (fun X hO hE hT hRm hL hNm => ?_)
  have hO : zOk G X RL cL_used 4 := hO
  refine zr_aload_2 hO dL_used_0 ?_
  refine zr_iconst (v := 0) hO dL_used_1 (by decide) ?_
  refine zr_aload_0 hO dL_used_2 ?_
  refine zr_iload_1 hO dL_used_3 ?_
  refine zV_pc (pc' := 4) rfl ?_
  refine z_callV (As := [.int a]) hO hRm hL (by omega) (by decide) (c := 6) (by decide) hX rfl rfl (e_X6_used (d := d - 1) htr hX hA (by omega)) zl_L_81 zi_X6_used zs_X6_used zc_X6_used zn_X6 zd_X6_used (Nat.le_of_ble_eq_true rfl) dL_used_4 (by omega) (by omega) (fun E9 z ly9 τ9 σ9 h => ?_) (fun v9 z ly9 τ9 σ9 h => ?_)
  · obtain ⟨h1, rfl, rfl, h4⟩ := h
    rcases hR : cP_used A a with q9 | E'
    · rw [hR] at h4; exact absurd h4.1 (by simp)
    rw [hR] at h4
    obtain ⟨h4, rfl⟩ := h4
    cases h4
    have hm := hE9 _ hR
    simp only [LX, List.mem_cons, List.not_mem_nil, or_false] at hm
    subst hm
    · refine zX_catch hO hT [] [] (a1 := 0) (a2 := 9) (a3 := 12) (ct := 23) rfl (fun z hz => absurd hz List.not_mem_nil) (by decide) (by decide) zk_L_23 zka_L_23 (fun q8 => ?_)
      refine zr_astore_3 hO dL_used_12 (by decide) rfl ?_
      refine zV_pc (pc' := 13) rfl ?_
      refine zr_iconst (v := 1) hO dL_used_13 (by decide) ?_
      exact zr_ireturn hO hE dL_used_14 (fun z9 hz9 => by subst hz9; exact zPw_x h1 hR (by decide))
  · obtain ⟨h1, rfl, rfl, h4⟩ := h
    rcases hR : cP_used A a with q9 | E'
    rotate_left
    · rw [hR] at h4; exact absurd h4.1 (by simp)
    rw [hR] at h4
    obtain ⟨h4, rfl⟩ := h4
    cases h4
    refine zV_pc (pc' := 7) rfl ?_
    refine zr_i2l hO dL_used_7 ?_
    refine zr_last hO hw (zin_i ⟨by decide, by decide⟩) dL_used_8 ?_
    refine zr_goto (tgt := 15) hO dL_used_9 (by decide) ?_
    refine zr_iconst (v := 0) hO dL_used_15 (by decide) ?_
    exact zr_ireturn hO hE dL_used_16 (fun z9 hz9 => by subst hz9; exact zPw_i h1 hR)
set_option maxRecDepth 100000 in
set_option maxHeartbeats 400000 in
theorem e_L_holder {l : Launch} {G : zGm} {d n x o q w : Nat} {ly : zLy} {τ : zTu} {σ A : zSg} {a : Int32} (htr : l.stackTraces = false) (hX : ly x = (6 + 5, 2, zcr6 o q)) (hA : zC ly o) (hw : ly w = (2, 1, znr)) (hE9 : ∀ E, cP_lk A a (cF_holder A a) = .inr E → E ∈ LX) (hd : 8 ≤ d) : zEvH l G d 1 6 (yL_holder, cL_holder, 4, some .int) [(0, 9, 12, 23)] [.ref x, .int a, .ref w] (fun z => n ≤ z) ly τ (zwr σ o 95 A) (zPw n ly τ σ o w A (cP_lk A a (cF_holder A a)) LX) := by
  refine zEvH_of (ls := [some (.ref x), some (.int a), some (.ref w), none, none, none, none, none, none]) htr (by decide) (Nat.le_of_ble_eq_true rfl) rfl (fun X hO hE hT hRm hL hNm => ?_)
  have hO : zOk G X RL cL_holder 4 := hO
  refine zr_aload_2 hO dL_holder_0 ?_
  refine zr_iconst (v := 0) hO dL_holder_1 (by decide) ?_
  refine zr_aload_0 hO dL_holder_2 ?_
  refine zr_iload_1 hO dL_holder_3 ?_
  refine zV_pc (pc' := 4) rfl ?_
  refine z_callV (As := [.int a]) hO hRm hL (by omega) (by decide) (c := 6) (by decide) hX rfl rfl (e_X6_holder (d := d - 1) htr hX hA (by omega)) zl_L_84 zi_X6_holder zs_X6_holder zc_X6_holder zn_X6 zd_X6_holder (Nat.le_of_ble_eq_true rfl) dL_holder_4 (by omega) (by omega) (fun E9 z ly9 τ9 σ9 h => ?_) (fun v9 z ly9 τ9 σ9 h => ?_)
  · obtain ⟨h1, rfl, rfl, h4⟩ := h
    rcases hR : cP_lk A a (cF_holder A a) with q9 | E'
    · rw [hR] at h4; exact absurd h4.1 (by simp)
    rw [hR] at h4
    obtain ⟨h4, rfl⟩ := h4
    cases h4
    have hm := hE9 _ hR
    simp only [LX, List.mem_cons, List.not_mem_nil, or_false] at hm
    subst hm
    · refine zX_catch hO hT [] [] (a1 := 0) (a2 := 9) (a3 := 12) (ct := 23) rfl (fun z hz => absurd hz List.not_mem_nil) (by decide) (by decide) zk_L_23 zka_L_23 (fun q8 => ?_)
      refine zr_astore_3 hO dL_holder_12 (by decide) rfl ?_
      refine zV_pc (pc' := 13) rfl ?_
      refine zr_iconst (v := 1) hO dL_holder_13 (by decide) ?_
      exact zr_ireturn hO hE dL_holder_14 (fun z9 hz9 => by subst hz9; exact zPw_x h1 hR (by decide))
  · obtain ⟨h1, rfl, rfl, h4⟩ := h
    rcases hR : cP_lk A a (cF_holder A a) with q9 | E'
    rotate_left
    · rw [hR] at h4; exact absurd h4.1 (by simp)
    rw [hR] at h4
    obtain ⟨h4, rfl⟩ := h4
    cases h4
    refine zV_pc (pc' := 7) rfl ?_
    refine zr_i2l hO dL_holder_7 ?_
    refine zr_last hO hw (zin_i ⟨by decide, by decide⟩) dL_holder_8 ?_
    refine zr_goto (tgt := 15) hO dL_holder_9 (by decide) ?_
    refine zr_iconst (v := 0) hO dL_holder_15 (by decide) ?_
    exact zr_ireturn hO hE dL_holder_16 (fun z9 hz9 => by subst hz9; exact zPw_i h1 hR)
set_option maxRecDepth 100000 in
set_option maxHeartbeats 400000 in
theorem e_L_blocked {l : Launch} {G : zGm} {d n x o q w : Nat} {ly : zLy} {τ : zTu} {σ A : zSg} {a : Int32} (htr : l.stackTraces = false) (hX : ly x = (6 + 5, 2, zcr6 o q)) (hA : zC ly o) (hw : ly w = (2, 1, znr)) (hE9 : ∀ E, cP_lk A a (cF_wt A 4 a) = .inr E → E ∈ LX) (hd : 8 ≤ d) : zEvH l G d 1 6 (yL_blocked, cL_blocked, 4, some .int) [(0, 9, 12, 23)] [.ref x, .int a, .ref w] (fun z => n ≤ z) ly τ (zwr σ o 95 A) (zPw n ly τ σ o w A (cP_lk A a (cF_wt A 4 a)) LX) := by
  refine zEvH_of (ls := [some (.ref x), some (.int a), some (.ref w), none, none, none, none, none, none]) htr (by decide) (Nat.le_of_ble_eq_true rfl) rfl (fun X hO hE hT hRm hL hNm => ?_)
  have hO : zOk G X RL cL_blocked 4 := hO
  refine zr_aload_2 hO dL_blocked_0 ?_
  refine zr_iconst (v := 0) hO dL_blocked_1 (by decide) ?_
  refine zr_aload_0 hO dL_blocked_2 ?_
  refine zr_iload_1 hO dL_blocked_3 ?_
  refine zV_pc (pc' := 4) rfl ?_
  refine z_callV (As := [.int a]) hO hRm hL (by omega) (by decide) (c := 6) (by decide) hX rfl rfl (e_X6_blocked (d := d - 1) htr hX hA (by omega)) zl_L_87 zi_X6_blocked zs_X6_blocked zc_X6_blocked zn_X6 zd_X6_blocked (Nat.le_of_ble_eq_true rfl) dL_blocked_4 (by omega) (by omega) (fun E9 z ly9 τ9 σ9 h => ?_) (fun v9 z ly9 τ9 σ9 h => ?_)
  · obtain ⟨h1, rfl, rfl, h4⟩ := h
    rcases hR : cP_lk A a (cF_wt A 4 a) with q9 | E'
    · rw [hR] at h4; exact absurd h4.1 (by simp)
    rw [hR] at h4
    obtain ⟨h4, rfl⟩ := h4
    cases h4
    have hm := hE9 _ hR
    simp only [LX, List.mem_cons, List.not_mem_nil, or_false] at hm
    subst hm
    · refine zX_catch hO hT [] [] (a1 := 0) (a2 := 9) (a3 := 12) (ct := 23) rfl (fun z hz => absurd hz List.not_mem_nil) (by decide) (by decide) zk_L_23 zka_L_23 (fun q8 => ?_)
      refine zr_astore_3 hO dL_blocked_12 (by decide) rfl ?_
      refine zV_pc (pc' := 13) rfl ?_
      refine zr_iconst (v := 1) hO dL_blocked_13 (by decide) ?_
      exact zr_ireturn hO hE dL_blocked_14 (fun z9 hz9 => by subst hz9; exact zPw_x h1 hR (by decide))
  · obtain ⟨h1, rfl, rfl, h4⟩ := h
    rcases hR : cP_lk A a (cF_wt A 4 a) with q9 | E'
    rotate_left
    · rw [hR] at h4; exact absurd h4.1 (by simp)
    rw [hR] at h4
    obtain ⟨h4, rfl⟩ := h4
    cases h4
    refine zV_pc (pc' := 7) rfl ?_
    refine zr_i2l hO dL_blocked_7 ?_
    refine zr_last hO hw (zin_i ⟨by decide, by decide⟩) dL_blocked_8 ?_
    refine zr_goto (tgt := 15) hO dL_blocked_9 (by decide) ?_
    refine zr_iconst (v := 0) hO dL_blocked_15 (by decide) ?_
    exact zr_ireturn hO hE dL_blocked_16 (fun z9 hz9 => by subst hz9; exact zPw_i h1 hR)
set_option maxRecDepth 100000 in
set_option maxHeartbeats 400000 in
theorem e_L_number {l : Launch} {G : zGm} {d n x o q w : Nat} {ly : zLy} {τ : zTu} {σ A : zSg} {a : Int32} (htr : l.stackTraces = false) (hX : ly x = (6 + 5, 2, zcr6 o q)) (hA : zC ly o) (hw : ly w = (2, 1, znr)) (hE9 : ∀ E, cP_lk A a (cF_number A a) = .inr E → E ∈ LX) (hd : 8 ≤ d) : zEvH l G d 1 6 (yL_number, cL_number, 4, some .int) [(0, 9, 12, 23)] [.ref x, .int a, .ref w] (fun z => n ≤ z) ly τ (zwr σ o 95 A) (zPw n ly τ σ o w A (cP_lk A a (cF_number A a)) LX) := by
  refine zEvH_of (ls := [some (.ref x), some (.int a), some (.ref w), none, none, none, none, none, none]) htr (by decide) (Nat.le_of_ble_eq_true rfl) rfl (fun X hO hE hT hRm hL hNm => ?_)
  have hO : zOk G X RL cL_number 4 := hO
  refine zr_aload_2 hO dL_number_0 ?_
  refine zr_iconst (v := 0) hO dL_number_1 (by decide) ?_
  refine zr_aload_0 hO dL_number_2 ?_
  refine zr_iload_1 hO dL_number_3 ?_
  refine zV_pc (pc' := 4) rfl ?_
  refine z_callV (As := [.int a]) hO hRm hL (by omega) (by decide) (c := 6) (by decide) hX rfl rfl (e_X6_number (d := d - 1) htr hX hA (by omega)) zl_L_90 zi_X6_number zs_X6_number zc_X6_number zn_X6 zd_X6_number (Nat.le_of_ble_eq_true rfl) dL_number_4 (by omega) (by omega) (fun E9 z ly9 τ9 σ9 h => ?_) (fun v9 z ly9 τ9 σ9 h => ?_)
  · obtain ⟨h1, rfl, rfl, h4⟩ := h
    rcases hR : cP_lk A a (cF_number A a) with q9 | E'
    · rw [hR] at h4; exact absurd h4.1 (by simp)
    rw [hR] at h4
    obtain ⟨h4, rfl⟩ := h4
    cases h4
    have hm := hE9 _ hR
    simp only [LX, List.mem_cons, List.not_mem_nil, or_false] at hm
    subst hm
    · refine zX_catch hO hT [] [] (a1 := 0) (a2 := 9) (a3 := 12) (ct := 23) rfl (fun z hz => absurd hz List.not_mem_nil) (by decide) (by decide) zk_L_23 zka_L_23 (fun q8 => ?_)
      refine zr_astore_3 hO dL_number_12 (by decide) rfl ?_
      refine zV_pc (pc' := 13) rfl ?_
      refine zr_iconst (v := 1) hO dL_number_13 (by decide) ?_
      exact zr_ireturn hO hE dL_number_14 (fun z9 hz9 => by subst hz9; exact zPw_x h1 hR (by decide))
  · obtain ⟨h1, rfl, rfl, h4⟩ := h
    rcases hR : cP_lk A a (cF_number A a) with q9 | E'
    rotate_left
    · rw [hR] at h4; exact absurd h4.1 (by simp)
    rw [hR] at h4
    obtain ⟨h4, rfl⟩ := h4
    cases h4
    refine zV_pc (pc' := 7) rfl ?_
    refine zr_i2l hO dL_number_7 ?_
    refine zr_last hO hw (zin_i ⟨by decide, by decide⟩) dL_number_8 ?_
    refine zr_goto (tgt := 15) hO dL_number_9 (by decide) ?_
    refine zr_iconst (v := 0) hO dL_number_15 (by decide) ?_
    exact zr_ireturn hO hE dL_number_16 (fun z9 hz9 => by subst hz9; exact zPw_i h1 hR)
set_option maxRecDepth 100000 in
set_option maxHeartbeats 400000 in
theorem e_L_awaiting {l : Launch} {G : zGm} {d n x o q w : Nat} {ly : zLy} {τ : zTu} {σ A : zSg} {a : Int32} (htr : l.stackTraces = false) (hX : ly x = (6 + 5, 2, zcr6 o q)) (hA : zC ly o) (hw : ly w = (2, 1, znr)) (hE9 : ∀ E, cP_lk A a (cF_wt A 5 a) = .inr E → E ∈ LX) (hd : 8 ≤ d) : zEvH l G d 1 6 (yL_awaiting, cL_awaiting, 4, some .int) [(0, 9, 12, 23)] [.ref x, .int a, .ref w] (fun z => n ≤ z) ly τ (zwr σ o 95 A) (zPw n ly τ σ o w A (cP_lk A a (cF_wt A 5 a)) LX) := by
  refine zEvH_of (ls := [some (.ref x), some (.int a), some (.ref w), none, none, none, none, none, none]) htr (by decide) (Nat.le_of_ble_eq_true rfl) rfl (fun X hO hE hT hRm hL hNm => ?_)
  have hO : zOk G X RL cL_awaiting 4 := hO
  refine zr_aload_2 hO dL_awaiting_0 ?_
  refine zr_iconst (v := 0) hO dL_awaiting_1 (by decide) ?_
  refine zr_aload_0 hO dL_awaiting_2 ?_
  refine zr_iload_1 hO dL_awaiting_3 ?_
  refine zV_pc (pc' := 4) rfl ?_
  refine z_callV (As := [.int a]) hO hRm hL (by omega) (by decide) (c := 6) (by decide) hX rfl rfl (e_X6_awaiting (d := d - 1) htr hX hA (by omega)) zl_L_93 zi_X6_awaiting zs_X6_awaiting zc_X6_awaiting zn_X6 zd_X6_awaiting (Nat.le_of_ble_eq_true rfl) dL_awaiting_4 (by omega) (by omega) (fun E9 z ly9 τ9 σ9 h => ?_) (fun v9 z ly9 τ9 σ9 h => ?_)
  · obtain ⟨h1, rfl, rfl, h4⟩ := h
    rcases hR : cP_lk A a (cF_wt A 5 a) with q9 | E'
    · rw [hR] at h4; exact absurd h4.1 (by simp)
    rw [hR] at h4
    obtain ⟨h4, rfl⟩ := h4
    cases h4
    have hm := hE9 _ hR
    simp only [LX, List.mem_cons, List.not_mem_nil, or_false] at hm
    subst hm
    · refine zX_catch hO hT [] [] (a1 := 0) (a2 := 9) (a3 := 12) (ct := 23) rfl (fun z hz => absurd hz List.not_mem_nil) (by decide) (by decide) zk_L_23 zka_L_23 (fun q8 => ?_)
      refine zr_astore_3 hO dL_awaiting_12 (by decide) rfl ?_
      refine zV_pc (pc' := 13) rfl ?_
      refine zr_iconst (v := 1) hO dL_awaiting_13 (by decide) ?_
      exact zr_ireturn hO hE dL_awaiting_14 (fun z9 hz9 => by subst hz9; exact zPw_x h1 hR (by decide))
  · obtain ⟨h1, rfl, rfl, h4⟩ := h
    rcases hR : cP_lk A a (cF_wt A 5 a) with q9 | E'
    rotate_left
    · rw [hR] at h4; exact absurd h4.1 (by simp)
    rw [hR] at h4
    obtain ⟨h4, rfl⟩ := h4
    cases h4
    refine zV_pc (pc' := 7) rfl ?_
    refine zr_i2l hO dL_awaiting_7 ?_
    refine zr_last hO hw (zin_i ⟨by decide, by decide⟩) dL_awaiting_8 ?_
    refine zr_goto (tgt := 15) hO dL_awaiting_9 (by decide) ?_
    refine zr_iconst (v := 0) hO dL_awaiting_15 (by decide) ?_
    exact zr_ireturn hO hE dL_awaiting_16 (fun z9 hz9 => by subst hz9; exact zPw_i h1 hR)
set_option maxRecDepth 100000 in
set_option maxHeartbeats 400000 in
theorem e_L_doneIn {l : Launch} {G : zGm} {d n x o q w : Nat} {ly : zLy} {τ : zTu} {σ A : zSg} {B : zSg} {a b : Int32} (htr : l.stackTraces = false) (hX : ly x = (6 + 5, 2, zcr6 o q)) (hA : zC ly o) (hB : zC ly q) (hq : o + 95 ≤ q) (hw : ly w = (2, 1, znr)) (hE9 : ∀ E, cP_doneIn A B a b = .inr E → E ∈ LXA) (hd : 10 ≤ d) : zEvH l G d 1 6 (yL_doneIn, cL_doneIn, 5, some .int) [(0, 10, 13, 23), (0, 10, 17, 13)] [.ref x, .int a, .int b, .ref w] (fun z => n ≤ z) ly τ (zwr (zwr σ o 95 A) q 95 B) (zPw n ly τ (zwr σ o 95 A) q w B (cP_doneIn A B a b) LXA) := by
  refine zEvH_of (ls := [some (.ref x), some (.int a), some (.int b), some (.ref w), none, none, none, none, none]) htr (by decide) (Nat.le_of_ble_eq_true rfl) rfl (fun X hO hE hT hRm hL hNm => ?_)
  have hO : zOk G X RL cL_doneIn 5 := hO
  refine zr_aload_3 hO dL_doneIn_0 ?_
  refine zr_iconst (v := 0) hO dL_doneIn_1 (by decide) ?_
  refine zr_aload_0 hO dL_doneIn_2 ?_
  refine zr_iload_1 hO dL_doneIn_3 ?_
  refine zr_iload_2 hO dL_doneIn_4 ?_
  refine zV_pc (pc' := 5) rfl ?_
  refine z_callV (As := [.int a, .int b]) hO hRm hL (by omega) (by decide) (c := 6) (by decide) hX rfl rfl (e_X6_doneIn (d := d - 1) htr hX hA hB hq (by omega)) zl_L_96 zi_X6_doneIn zs_X6_doneIn zc_X6_doneIn zn_X6 zd_X6_doneIn (Nat.le_of_ble_eq_true rfl) dL_doneIn_5 (by omega) (by omega) (fun E9 z ly9 τ9 σ9 h => ?_) (fun v9 z ly9 τ9 σ9 h => ?_)
  · obtain ⟨h1, rfl, rfl, h4⟩ := h
    rcases hR : cP_doneIn A B a b with q9 | E'
    · rw [hR] at h4; exact absurd h4.1 (by simp)
    rw [hR] at h4
    obtain ⟨h4, rfl⟩ := h4
    cases h4
    have hm := hE9 _ hR
    simp only [LXA, List.mem_cons, List.not_mem_nil, or_false] at hm
    rcases hm with rfl | rfl
    · refine zX_catch hO hT [] [(0, 10, 17, 13)] (a1 := 0) (a2 := 10) (a3 := 13) (ct := 23) rfl (fun z hz => absurd hz List.not_mem_nil) (by decide) (by decide) zk_L_23 zka_L_23 (fun q8 => ?_)
      refine zr_astore_4 hO dL_doneIn_13 (by decide) rfl ?_
      refine zV_pc (pc' := 15) rfl ?_
      refine zr_iconst (v := 1) hO dL_doneIn_15 (by decide) ?_
      exact zr_ireturn hO hE dL_doneIn_16 (fun z9 hz9 => by subst hz9; exact zPw_x h1 hR (by decide))
    · refine zX_catch hO hT [(0, 10, 13, 23)] [] (a1 := 0) (a2 := 10) (a3 := 17) (ct := 13) rfl (fun z hz => by rw [List.mem_singleton.mp hz]; exact ⟨by decide, _, zk_L_23, by decide +kernel⟩) (by decide) (by decide) zk_L_13 zka_L_13 (fun q8 => ?_)
      refine zr_astore_4 hO dL_doneIn_17 (by decide) rfl ?_
      refine zV_pc (pc' := 19) rfl ?_
      refine zr_iconst (v := 2) hO dL_doneIn_19 (by decide) ?_
      exact zr_ireturn hO hE dL_doneIn_20 (fun z9 hz9 => by subst hz9; exact zPw_x h1 hR (by decide))
  · obtain ⟨h1, rfl, rfl, h4⟩ := h
    rcases hR : cP_doneIn A B a b with q9 | E'
    rotate_left
    · rw [hR] at h4; exact absurd h4.1 (by simp)
    rw [hR] at h4
    obtain ⟨h4, rfl⟩ := h4
    cases h4
    refine zV_pc (pc' := 8) rfl ?_
    refine zr_i2l hO dL_doneIn_8 ?_
    refine zr_last hO hw (zin_i ⟨by decide, by decide⟩) dL_doneIn_9 ?_
    refine zr_goto (tgt := 21) hO dL_doneIn_10 (by decide) ?_
    refine zr_iconst (v := 0) hO dL_doneIn_21 (by decide) ?_
    exact zr_ireturn hO hE dL_doneIn_22 (fun z9 hz9 => by subst hz9; exact zPw_i h1 hR)
set_option maxRecDepth 100000 in
set_option maxHeartbeats 400000 in
theorem e_L_doneWith {l : Launch} {G : zGm} {d n x o q w : Nat} {ly : zLy} {τ : zTu} {σ A : zSg} {B : zSg} {a b c : Int32} (htr : l.stackTraces = false) (hX : ly x = (6 + 5, 2, zcr6 o q)) (hA : zC ly o) (hB : zC ly q) (hq : o + 95 ≤ q) (hw : ly w = (2, 1, znr)) (hE9 : ∀ E, cP_doneWith A B a b c = .inr E → E ∈ LXA) (hd : 10 ≤ d) : zEvH l G d 1 6 (yL_doneWith, cL_doneWith, 6, some .int) [(0, 12, 15, 23), (0, 12, 19, 13)] [.ref x, .int a, .int b, .int c, .ref w] (fun z => n ≤ z) ly τ (zwr (zwr σ o 95 A) q 95 B) (zPw n ly τ (zwr σ o 95 A) q w B (cP_doneWith A B a b c) LXA) := by
  refine zEvH_of (ls := [some (.ref x), some (.int a), some (.int b), some (.int c), some (.ref w), none, none, none, none]) htr (by decide) (Nat.le_of_ble_eq_true rfl) rfl (fun X hO hE hT hRm hL hNm => ?_)
  have hO : zOk G X RL cL_doneWith 6 := hO
  refine zr_aload_4 hO dL_doneWith_0 ?_
  refine zr_iconst (v := 0) hO dL_doneWith_2 (by decide) ?_
  refine zr_aload_0 hO dL_doneWith_3 ?_
  refine zr_iload_1 hO dL_doneWith_4 ?_
  refine zr_iload_2 hO dL_doneWith_5 ?_
  refine zr_iload_3 hO dL_doneWith_6 ?_
  refine zV_pc (pc' := 7) rfl ?_
  refine z_callV (As := [.int a, .int b, .int c]) hO hRm hL (by omega) (by decide) (c := 6) (by decide) hX rfl rfl (e_X6_doneWith (d := d - 1) htr hX hA hB hq (by omega)) zl_L_99 zi_X6_doneWith zs_X6_doneWith zc_X6_doneWith zn_X6 zd_X6_doneWith (Nat.le_of_ble_eq_true rfl) dL_doneWith_7 (by omega) (by omega) (fun E9 z ly9 τ9 σ9 h => ?_) (fun v9 z ly9 τ9 σ9 h => ?_)
  · obtain ⟨h1, rfl, rfl, h4⟩ := h
    rcases hR : cP_doneWith A B a b c with q9 | E'
    · rw [hR] at h4; exact absurd h4.1 (by simp)
    rw [hR] at h4
    obtain ⟨h4, rfl⟩ := h4
    cases h4
    have hm := hE9 _ hR
    simp only [LXA, List.mem_cons, List.not_mem_nil, or_false] at hm
    rcases hm with rfl | rfl
    · refine zX_catch hO hT [] [(0, 12, 19, 13)] (a1 := 0) (a2 := 12) (a3 := 15) (ct := 23) rfl (fun z hz => absurd hz List.not_mem_nil) (by decide) (by decide) zk_L_23 zka_L_23 (fun q8 => ?_)
      refine zr_astore_5 hO dL_doneWith_15 (by decide) rfl ?_
      refine zV_pc (pc' := 17) rfl ?_
      refine zr_iconst (v := 1) hO dL_doneWith_17 (by decide) ?_
      exact zr_ireturn hO hE dL_doneWith_18 (fun z9 hz9 => by subst hz9; exact zPw_x h1 hR (by decide))
    · refine zX_catch hO hT [(0, 12, 15, 23)] [] (a1 := 0) (a2 := 12) (a3 := 19) (ct := 13) rfl (fun z hz => by rw [List.mem_singleton.mp hz]; exact ⟨by decide, _, zk_L_23, by decide +kernel⟩) (by decide) (by decide) zk_L_13 zka_L_13 (fun q8 => ?_)
      refine zr_astore_5 hO dL_doneWith_19 (by decide) rfl ?_
      refine zV_pc (pc' := 21) rfl ?_
      refine zr_iconst (v := 2) hO dL_doneWith_21 (by decide) ?_
      exact zr_ireturn hO hE dL_doneWith_22 (fun z9 hz9 => by subst hz9; exact zPw_x h1 hR (by decide))
  · obtain ⟨h1, rfl, rfl, h4⟩ := h
    rcases hR : cP_doneWith A B a b c with q9 | E'
    rotate_left
    · rw [hR] at h4; exact absurd h4.1 (by simp)
    rw [hR] at h4
    obtain ⟨h4, rfl⟩ := h4
    cases h4
    refine zV_pc (pc' := 10) rfl ?_
    refine zr_i2l hO dL_doneWith_10 ?_
    refine zr_last hO hw (zin_i ⟨by decide, by decide⟩) dL_doneWith_11 ?_
    refine zr_goto (tgt := 23) hO dL_doneWith_12 (by decide) ?_
    refine zr_iconst (v := 0) hO dL_doneWith_23 (by decide) ?_
    exact zr_ireturn hO hE dL_doneWith_24 (fun z9 hz9 => by subst hz9; exact zPw_i h1 hR)
set_option maxRecDepth 100000 in
set_option maxHeartbeats 400000 in
theorem e_L_idleIn {l : Launch} {G : zGm} {d n x o q w : Nat} {ly : zLy} {τ : zTu} {σ A : zSg} {B : zSg} {a : Int32} (htr : l.stackTraces = false) (hX : ly x = (6 + 5, 2, zcr6 o q)) (hA : zC ly o) (hB : zC ly q) (hq : o + 95 ≤ q) (hw : ly w = (2, 1, znr)) (hE9 : ∀ E, cP_idleIn A B a = .inr E → E ∈ LA) (hd : 10 ≤ d) : zEvH l G d 1 6 (yL_idleIn, cL_idleIn, 4, some .int) [(0, 9, 12, 13)] [.ref x, .int a, .ref w] (fun z => n ≤ z) ly τ (zwr (zwr σ o 95 A) q 95 B) (zPw n ly τ (zwr σ o 95 A) q w B (cP_idleIn A B a) LA) := by
  refine zEvH_of (ls := [some (.ref x), some (.int a), some (.ref w), none, none, none, none, none, none]) htr (by decide) (Nat.le_of_ble_eq_true rfl) rfl (fun X hO hE hT hRm hL hNm => ?_)
  have hO : zOk G X RL cL_idleIn 4 := hO
  refine zr_aload_2 hO dL_idleIn_0 ?_
  refine zr_iconst (v := 0) hO dL_idleIn_1 (by decide) ?_
  refine zr_aload_0 hO dL_idleIn_2 ?_
  refine zr_iload_1 hO dL_idleIn_3 ?_
  refine zV_pc (pc' := 4) rfl ?_
  refine z_callV (As := [.int a]) hO hRm hL (by omega) (by decide) (c := 6) (by decide) hX rfl rfl (e_X6_idleIn (d := d - 1) htr hX hA hB hq (by omega)) zl_L_102 zi_X6_idleIn zs_X6_idleIn zc_X6_idleIn zn_X6 zd_X6_idleIn (Nat.le_of_ble_eq_true rfl) dL_idleIn_4 (by omega) (by omega) (fun E9 z ly9 τ9 σ9 h => ?_) (fun v9 z ly9 τ9 σ9 h => ?_)
  · obtain ⟨h1, rfl, rfl, h4⟩ := h
    rcases hR : cP_idleIn A B a with q9 | E'
    · rw [hR] at h4; exact absurd h4.1 (by simp)
    rw [hR] at h4
    obtain ⟨h4, rfl⟩ := h4
    cases h4
    have hm := hE9 _ hR
    simp only [LA, List.mem_cons, List.not_mem_nil, or_false] at hm
    subst hm
    · refine zX_catch hO hT [] [] (a1 := 0) (a2 := 9) (a3 := 12) (ct := 13) rfl (fun z hz => absurd hz List.not_mem_nil) (by decide) (by decide) zk_L_13 zka_L_13 (fun q8 => ?_)
      refine zr_astore_3 hO dL_idleIn_12 (by decide) rfl ?_
      refine zV_pc (pc' := 13) rfl ?_
      refine zr_iconst (v := 1) hO dL_idleIn_13 (by decide) ?_
      exact zr_ireturn hO hE dL_idleIn_14 (fun z9 hz9 => by subst hz9; exact zPw_x h1 hR (by decide))
  · obtain ⟨h1, rfl, rfl, h4⟩ := h
    rcases hR : cP_idleIn A B a with q9 | E'
    rotate_left
    · rw [hR] at h4; exact absurd h4.1 (by simp)
    rw [hR] at h4
    obtain ⟨h4, rfl⟩ := h4
    cases h4
    refine zV_pc (pc' := 7) rfl ?_
    refine zr_i2l hO dL_idleIn_7 ?_
    refine zr_last hO hw (zin_i ⟨by decide, by decide⟩) dL_idleIn_8 ?_
    refine zr_goto (tgt := 15) hO dL_idleIn_9 (by decide) ?_
    refine zr_iconst (v := 0) hO dL_idleIn_15 (by decide) ?_
    exact zr_ireturn hO hE dL_idleIn_16 (fun z9 hz9 => by subst hz9; exact zPw_i h1 hR)
set_option maxRecDepth 100000 in
set_option maxHeartbeats 400000 in
theorem e_L_stuckIn {l : Launch} {G : zGm} {d n x o q w : Nat} {ly : zLy} {τ : zTu} {σ A : zSg} {B : zSg} {a : Int32} (htr : l.stackTraces = false) (hX : ly x = (6 + 5, 2, zcr6 o q)) (hA : zC ly o) (hB : zC ly q) (hq : o + 95 ≤ q) (hw : ly w = (2, 1, znr)) (hE9 : ∀ E, cP_stuckIn A B a = .inr E → E ∈ LA) (hd : 10 ≤ d) : zEvH l G d 1 6 (yL_stuckIn, cL_stuckIn, 4, some .int) [(0, 9, 12, 13)] [.ref x, .int a, .ref w] (fun z => n ≤ z) ly τ (zwr (zwr σ o 95 A) q 95 B) (zPw n ly τ (zwr σ o 95 A) q w B (cP_stuckIn A B a) LA) := by
  refine zEvH_of (ls := [some (.ref x), some (.int a), some (.ref w), none, none, none, none, none, none]) htr (by decide) (Nat.le_of_ble_eq_true rfl) rfl (fun X hO hE hT hRm hL hNm => ?_)
  have hO : zOk G X RL cL_stuckIn 4 := hO
  refine zr_aload_2 hO dL_stuckIn_0 ?_
  refine zr_iconst (v := 0) hO dL_stuckIn_1 (by decide) ?_
  refine zr_aload_0 hO dL_stuckIn_2 ?_
  refine zr_iload_1 hO dL_stuckIn_3 ?_
  refine zV_pc (pc' := 4) rfl ?_
  refine z_callV (As := [.int a]) hO hRm hL (by omega) (by decide) (c := 6) (by decide) hX rfl rfl (e_X6_stuckIn (d := d - 1) htr hX hA hB hq (by omega)) zl_L_105 zi_X6_stuckIn zs_X6_stuckIn zc_X6_stuckIn zn_X6 zd_X6_stuckIn (Nat.le_of_ble_eq_true rfl) dL_stuckIn_4 (by omega) (by omega) (fun E9 z ly9 τ9 σ9 h => ?_) (fun v9 z ly9 τ9 σ9 h => ?_)
  · obtain ⟨h1, rfl, rfl, h4⟩ := h
    rcases hR : cP_stuckIn A B a with q9 | E'
    · rw [hR] at h4; exact absurd h4.1 (by simp)
    rw [hR] at h4
    obtain ⟨h4, rfl⟩ := h4
    cases h4
    have hm := hE9 _ hR
    simp only [LA, List.mem_cons, List.not_mem_nil, or_false] at hm
    subst hm
    · refine zX_catch hO hT [] [] (a1 := 0) (a2 := 9) (a3 := 12) (ct := 13) rfl (fun z hz => absurd hz List.not_mem_nil) (by decide) (by decide) zk_L_13 zka_L_13 (fun q8 => ?_)
      refine zr_astore_3 hO dL_stuckIn_12 (by decide) rfl ?_
      refine zV_pc (pc' := 13) rfl ?_
      refine zr_iconst (v := 1) hO dL_stuckIn_13 (by decide) ?_
      exact zr_ireturn hO hE dL_stuckIn_14 (fun z9 hz9 => by subst hz9; exact zPw_x h1 hR (by decide))
  · obtain ⟨h1, rfl, rfl, h4⟩ := h
    rcases hR : cP_stuckIn A B a with q9 | E'
    rotate_left
    · rw [hR] at h4; exact absurd h4.1 (by simp)
    rw [hR] at h4
    obtain ⟨h4, rfl⟩ := h4
    cases h4
    refine zV_pc (pc' := 7) rfl ?_
    refine zr_i2l hO dL_stuckIn_7 ?_
    refine zr_last hO hw (zin_i ⟨by decide, by decide⟩) dL_stuckIn_8 ?_
    refine zr_goto (tgt := 15) hO dL_stuckIn_9 (by decide) ?_
    refine zr_iconst (v := 0) hO dL_stuckIn_15 (by decide) ?_
    exact zr_ireturn hO hE dL_stuckIn_16 (fun z9 hz9 => by subst hz9; exact zPw_i h1 hR)
