/-! The law: ran, set -/
theorem zsm_pre {n K B : Nat} {A M : zSg} (h : zJT n K B A M) (hK : K ≤ 190000) {t : Nat} (ht : t ≤ n) : 0 ≤ zsm M t ∧ zsm M t ≤ 3200016 := by
  have hn := zJT_n h
  have hc := zI_K h.1.1
  have h1 := zsm_le (M := M) t (fun u hu => by
    obtain ⟨⟨a0, a1, a2⟩, _, _, e⟩ := k_cnt h (show u < n by omega)
    omega)
  have h2 := zsm_ge (M := M) t (fun u hu => (k_cnt h (show u < n by omega)).1.1)
  omega
set_option maxRecDepth 100000 in
theorem e_L_ran {l : Launch} {G : zGm} {d N x n K Bd : Nat} {ly : zLy} {τ : zTu} {σ A B M : zSg} (htr : l.stackTraces = false) (hX : ly x = (6 + 5, 2, zcr6 (x + 1) (x + 96)) ∧ zC ly (x + 1) ∧ zC ly (x + 96)) (hLL : G.2.2.2.2.1 ≤ 260) (h : zJT n K Bd A M) (hK : K ≤ 190000) (hd : 11 ≤ d) : zEv l G d 0 0 (yL_ran, cL_ran, 3, some .int) [.ref x] (fun z => N ≤ z) ly τ (st2 σ x A B) (zPl N ly τ (st2 σ x A B) (some (.int (M 0 13)))) := by
  refine zEv_of (ls := [some (.ref x), none, none, none, none, none, none, none, none]) htr (by decide) (Nat.le_of_ble_eq_true rfl) rfl (fun X hO hE hN hRm hL hNm => ?_)
  have hO : zOk G X RL cL_ran 3 := hO
  have H : zLw G X l d cL_ran 3 ly x := ⟨⟨hO, hRm, hL, hd, htr⟩, hX, hLL⟩
  have hn := zJT_n h
  have loop : ∀ j t (s : Int32), t + j = n → s.toInt = zsm M t → zV G X 3 0 0 (fun z => N ≤ z) ly τ (st2 σ x A B) 4 [some (.ref x), some (.int s), some (.int (nI t)), none, none, none, none, none, none] [] := by
    intro j
    induction j with
    | zero =>
      intro t s ht hs
      refine zr_iload_2 hO dL_ran_4 ?_
      refine zr_aload_0 hO dL_ran_5 ?_
      refine zV_pc (pc' := 6) rfl ?_
      refine a_tasks H h (Nat.le_of_ble_eq_true rfl) dL_ran_6 ?_
      refine zV_pc (pc' := 9) rfl ?_
      refine zr_icmp_ge (tgt := 27) hO dL_ran_9 (by decide) (fun c => ?_) (fun c => ?_)
      · clear c
        refine zV_pc (pc' := 27) rfl ?_
        refine zr_iload_1 hO dL_ran_27 ?_
        refine zV_pc (pc' := 28) rfl ?_
        have e : s = M 0 13 := by
          have h5 : zsm M n = (M 0 13).toInt + 0 := h.2.1.2.2.2.2.1
          apply Int32.toInt_inj.mp
          rw [hs, show t = n by omega, h5]
          omega
        exact zr_ireturn hO hE dL_ran_28 (fun z hz => ⟨by rw [e], hz, rfl, rfl, rfl⟩)
      · rw [i_lt, nI_rng (by omega), nI_rng (by omega)] at c
        omega
    | succ j ih =>
      intro t s ht hs
      refine zr_iload_2 hO dL_ran_4 ?_
      refine zr_aload_0 hO dL_ran_5 ?_
      refine zV_pc (pc' := 6) rfl ?_
      refine a_tasks H h (Nat.le_of_ble_eq_true rfl) dL_ran_6 ?_
      refine zV_pc (pc' := 9) rfl ?_
      refine zr_icmp_ge (tgt := 27) hO dL_ran_9 (by decide) (fun c => ?_) (fun c => ?_)
      · rw [i_lt, nI_rng (by omega), nI_rng (by omega)] at c
        omega
      · clear c
        refine zV_pc (pc' := 12) rfl ?_
        refine zr_iload_1 hO dL_ran_12 ?_
        refine zr_aload_0 hO dL_ran_13 ?_
        refine zr_iload_2 hO dL_ran_14 ?_
        refine zr_iconst (v := 0) hO dL_ran_15 (by decide) ?_
        refine zV_pc (pc' := 16) rfl ?_
        refine a_told H h (t := t) (by omega) (w := 0) (by decide) (Nat.le_of_ble_eq_true rfl) dL_ran_16 ?_
        refine zV_pc (pc' := 19) rfl ?_
        refine zr_iadd hO dL_ran_19 ?_
        refine zr_istore_1 hO dL_ran_20 (by decide) rfl ?_
        refine zr_iinc_2 (v := 1) hO dL_ran_21 (by decide) (by decide) rfl ?_
        refine zr_goto (tgt := 4) hO dL_ran_24 (by decide) ?_
        rw [nI_1]
        refine ih (t + 1) _ (by omega) ?_
        have g0 := zsm_pre h hK (t := t) (by omega)
        have g1 := zsm_pre h hK (t := t + 1) (by omega)
        have e1 : zsm M (t + 1) = zsm M t + (M (52 + t) 0).toInt := rfl
        rw [e1] at g1 ⊢
        rw [fb_addI (by omega) (by omega), hs]
  refine zr_iconst (v := 0) hO dL_ran_0 (by decide) ?_
  refine zr_istore_1 hO dL_ran_1 (by decide) rfl ?_
  refine zr_iconst (v := 0) hO dL_ran_2 (by decide) ?_
  refine zr_istore_2 hO dL_ran_3 (by decide) rfl ?_
  refine zV_pc (pc' := 4) rfl ?_
  exact loop n 0 0 (by omega) rfl
/-- the end of a method of the law -/
def zPj (N x : Nat) (ly : zLy) (τ : zTu) (σ : zSg) (P : Option Value → zSg → zSg → Prop) : zPost := fun r z ly' τ' σ' => ∃ v A' B', r = .inl v ∧ P v A' B' ∧ σ' = st2 σ x A' B' ∧ N ≤ z ∧ ly' = ly ∧ τ' = τ
theorem is_nI {r a b : Nat} {lo hi : Int32} (h : a ≤ r) (h2 : r ≤ b) (hb : b < 100) (hl : lo.toInt = a) (hh : hi.toInt = b) : mF_is (nI r) lo hi = true := is_y (by rw [hl, nI_rng (by omega)]; omega) (by rw [hh, nI_rng (by omega)]; omega)
theorem pl_nI (r : Nat) : ∀ a : Nat, nI a + nI r = nI (a + r) := fun a => nI_pl a r
theorem r6 : ∀ r, r < 3 → nI r * 6 = nI (r * 6) := by decide
set_option maxRecDepth 100000 in
theorem e_L_set {l : Launch} {G : zGm} {d N x n K Bd : Nat} {ly : zLy} {τ : zTu} {σ A B M : zSg} {v : Int32} (htr : l.stackTraces = false) (hX : ly x = (6 + 5, 2, zcr6 (x + 1) (x + 96)) ∧ zC ly (x + 1) ∧ zC ly (x + 96)) (hLL : G.2.2.2.2.1 ≤ 260) (h : zJT n K Bd A M) (hd : 11 ≤ d) : zEv l G d 4 24 (yL_set, cL_set, 2, none) [.ref x, .int v] (fun z => N ≤ z) ly τ (st2 σ x A B) (zPj N x ly τ σ (fun w A' B' => w = none ∧ B' = B ∧ ∃ M', zJT n K Bd A' M')) := by
  refine zEv_of (ls := [some (.ref x), some (.int v), none, none, none, none, none, none, none]) htr (by decide) (Nat.le_of_ble_eq_true rfl) rfl (fun X hO hE hN hRm hL hNm => ?_)
  have hO : zOk G X RL cL_set 2 := hO
  have H : zLw G X l d cL_set 2 ly x := ⟨⟨hO, hRm, hL, hd, htr⟩, hX, hLL⟩
  refine zr_aload_0 hO dL_set_0 ?_
  refine zr_iconst (v := 1) hO dL_set_1 (by decide) ?_
  refine zr_iload_1 hO dL_set_2 ?_
  refine zr_iconst (v := 3) hO dL_set_3 (by decide) ?_
  refine zV_pc (pc' := 4) rfl ?_
  refine a_below (k := 3) H (by decide) (by decide) (Nat.le_of_ble_eq_true rfl) dL_set_4 (fun r1 hr1 => ?_)
  refine zV_pc (pc' := 7) rfl ?_
  refine zr_iadd hO dL_set_7 ?_
  refine zV_pc (pc' := 8) rfl ?_
  rw [show (1 : Int32) = nI 1 from rfl, nI_pl]
  refine a_setProcessors H h (is_nI (a := 1) (b := 3) (by omega) (by omega) (by decide) rfl rfl) (by omega) (by omega) (Nat.le_of_ble_eq_true rfl) dL_set_8 (fun A1 v1 M1 h1 => ?_)
  refine zV_pc (pc' := 11) rfl ?_
  refine zr_pop hO dL_set_11 rfl ?_
  refine zr_aload_0 hO dL_set_12 ?_
  refine zr_iload_1 hO dL_set_13 ?_
  refine zr_iconst (v := 2) hO dL_set_14 (by decide) ?_
  refine zr_ishr hO dL_set_15 ?_
  refine zV_pc (pc' := 16) rfl ?_
  refine zr_iconst (v := 3) hO dL_set_16 (by decide) ?_
  refine zV_pc (pc' := 17) rfl ?_
  refine a_below (k := 3) H (by decide) (by decide) (Nat.le_of_ble_eq_true rfl) dL_set_17 (fun r2 hr2 => ?_)
  refine zV_pc (pc' := 20) rfl ?_
  refine zr_iconst (v := 1) hO dL_set_20 (by decide) ?_
  refine zr_iload_1 hO dL_set_21 ?_
  refine zr_iconst (v := 4) hO dL_set_22 (by decide) ?_
  refine zr_ishr hO dL_set_23 ?_
  refine zr_iconst (v := 4) hO dL_set_24 (by decide) ?_
  refine zV_pc (pc' := 25) rfl ?_
  refine a_below (k := 4) H (by decide) (by decide) (Nat.le_of_ble_eq_true rfl) dL_set_25 (fun r3 hr3 => ?_)
  refine zV_pc (pc' := 28) rfl ?_
  refine zr_iadd hO dL_set_28 ?_
  refine zr_iload_1 hO dL_set_29 ?_
  refine zr_bipush (v := 6) hO dL_set_30 (by decide) ?_
  refine zr_ishr hO dL_set_32 ?_
  refine zr_iconst (v := 3) hO dL_set_33 (by decide) ?_
  refine zV_pc (pc' := 34) rfl ?_
  refine a_below (k := 3) H (by decide) (by decide) (Nat.le_of_ble_eq_true rfl) dL_set_34 (fun r4 hr4 => ?_)
  refine zV_pc (pc' := 37) rfl ?_
  refine zr_bipush (v := 6) hO dL_set_37 (by decide) ?_
  refine zr_imul hO dL_set_39 ?_
  refine zV_pc (pc' := 40) rfl ?_
  rw [show (1 : Int32) = nI 1 from rfl, nI_pl, r6 r4 hr4]
  refine a_setWay H h1 (is_nI (a := 0) (b := 2) (by omega) (by omega) (by decide) rfl rfl) (is_nI (a := 1) (b := 10) (by omega) (by omega) (by decide) rfl rfl) (is_nI (a := 0) (b := 50) (by omega) (by omega) (by decide) rfl rfl) (by omega) (by omega) (Nat.le_of_ble_eq_true rfl) dL_set_40 (fun A2 v2 M2 h2 => ?_)
  refine zV_pc (pc' := 43) rfl ?_
  refine zr_pop hO dL_set_43 rfl ?_
  refine zr_aload_0 hO dL_set_44 ?_
  refine zr_iconst (v := 3) hO dL_set_45 (by decide) ?_
  refine zr_iload_1 hO dL_set_46 ?_
  refine zr_bipush (v := 7) hO dL_set_47 (by decide) ?_
  refine zV_pc (pc' := 49) rfl ?_
  refine zr_ishr hO dL_set_49 ?_
  refine zr_bipush (v := 8) hO dL_set_50 (by decide) ?_
  refine zV_pc (pc' := 52) rfl ?_
  refine a_below (k := 8) H (by decide) (by decide) (Nat.le_of_ble_eq_true rfl) dL_set_52 (fun r5 hr5 => ?_)
  refine zV_pc (pc' := 55) rfl ?_
  refine zr_iadd hO dL_set_55 ?_
  refine zV_pc (pc' := 56) rfl ?_
  rw [show (3 : Int32) = nI 3 from rfl, nI_pl]
  refine a_setPeriod H h2 (is_nI (a := 1) (b := 50) (by omega) (by omega) (by decide) rfl rfl) (by omega) (by omega) (Nat.le_of_ble_eq_true rfl) dL_set_56 (fun A3 v3 M3 h3 => ?_)
  refine zV_pc (pc' := 59) rfl ?_
  refine zr_pop hO dL_set_59 rfl ?_
  refine zr_aload_0 hO dL_set_60 ?_
  refine zr_iload_1 hO dL_set_61 ?_
  refine zr_bipush (v := 8) hO dL_set_62 (by decide) ?_
  refine zr_ishr hO dL_set_64 ?_
  refine zV_pc (pc' := 65) rfl ?_
  refine zr_iconst (v := 3) hO dL_set_65 (by decide) ?_
  refine zV_pc (pc' := 66) rfl ?_
  refine a_below (k := 3) H (by decide) (by decide) (Nat.le_of_ble_eq_true rfl) dL_set_66 (fun r7 hr7 => ?_)
  refine zV_pc (pc' := 69) rfl ?_
  refine zr_iload_1 hO dL_set_69 ?_
  refine zr_bipush (v := 9) hO dL_set_70 (by decide) ?_
  refine zr_ishr hO dL_set_72 ?_
  refine zr_iconst (v := 4) hO dL_set_73 (by decide) ?_
  refine zV_pc (pc' := 74) rfl ?_
  refine a_below (k := 4) H (by decide) (by decide) (Nat.le_of_ble_eq_true rfl) dL_set_74 (fun r8 hr8 => ?_)
  refine zV_pc (pc' := 77) rfl ?_
  refine a_setQuota H h3 (is_nI (a := 0) (b := 3) (by omega) (by omega) (by decide) rfl rfl) (is_nI (a := 0) (b := 50) (by omega) (by omega) (by decide) rfl rfl) (by omega) (by omega) (Nat.le_of_ble_eq_true rfl) dL_set_77 (fun A4 v4 M4 h4 => ?_)
  refine zV_pc (pc' := 80) rfl ?_
  refine zr_pop hO dL_set_80 rfl ?_
  refine zV_pc (pc' := 81) rfl ?_
  exact zr_return hO hE dL_set_81 (fun z hz => ⟨none, A4, B, rfl, ⟨rfl, rfl, M4, h4⟩, rfl, hz, rfl, rfl⟩)
