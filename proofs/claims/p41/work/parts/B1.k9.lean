/-! The law: its loop -/
theorem modI {t k : Nat} (ht : t < 90) (hk : 1 ≤ k) (hk2 : k ≤ 100) : nI t - nI t / nI k * nI k = nI (t % k) := by
  have := modk (t := nI t) (by rw [nI_rng (by omega)]; omega) hk hk2
  rw [zix (by omega)] at this
  exact this
theorem zJT_new : zJT 0 0 0 cF_new mF_new := by
  refine ⟨zQR_new, ⟨fun t ht => absurd ht (Nat.not_lt_zero t), fun q t hq ht e => ?_, fun q t _ ht => absurd ht (Nat.not_lt_zero t), ⟨⟨by decide, by decide⟩, fun t ht => absurd ht (Nat.not_lt_zero t)⟩, rfl, Or.inl rfl⟩, by unfold zJd; decide⟩
  have e1 : mF_new 101 q = -1 := by
    show (if q < 6 then (-1 : Int32) else 0) = -1
    rw [if_pos hq]
  rw [e1] at e
  exact absurd e.symm (nI_nm t ht)
set_option maxRecDepth 100000 in
set_option maxHeartbeats 2000000 in
theorem law_loop {G : zGm} {X : zCx} {l : Launch} {N x n : Nat} {ly : zLy} {τ : zTu} {σ : zSg} (hO : zOk G X RL cL_law 6) (hRm : zRm X 13) (hL : zLn X l) (htr : l.stackTraces = false) (hX : ly x = (6 + 5, 2, zcr6 (x + 1) (x + 96)) ∧ zC ly (x + 1) ∧ zC ly (x + 96)) (hLL : G.2.2.2.2.1 ≤ 260) (h2n : 2 ≤ n) (hend : ∀ (A B : zSg) (ls : List (Option Value)), zV G X 6 0 0 (fun z => N ≤ z) ly τ (st2 σ x A B) 97 ls []) : ∀ j t K Bd (A B M : zSg), t + j = 40 → zJT n K Bd A M → zU B → K + 24 * j + 300 ≤ 190000 → Bd + 600 * j + 700 ≤ 2000000000 → zV G X 6 (26 * j) (156 * j) (fun z => N ≤ z) ly τ (st2 σ x A B) 17 [some (.ref G.2.2.2.1), some (.ref x), some (.int (nI n)), some (.int (nI t)), none, none, none, none, none] [] := by
  have H : zLw G X l 13 cL_law 6 ly x := ⟨⟨hO, hRm, hL, by decide, htr⟩, hX, hLL⟩
  intro j
  induction j with
  | zero =>
    intro t K Bd A B M ht h hU hK hB
    refine zr_iload_3 hO dL_law_17 ?_
    refine zr_bipush (v := 40) hO dL_law_18 (by decide) ?_
    refine zV_pc (pc' := 20) rfl ?_
    refine zr_icmp_ge (tgt := 97) hO dL_law_20 (by decide) (fun c => ?_) (fun c => ?_)
    · exact hend A B _
    · rw [i_lt, nI_rng (by omega), show (40 : Int32).toInt = 40 from rfl] at c
      omega
  | succ j ih =>
    intro t K Bd A B M ht h hU hK hB
    refine zr_iload_3 hO dL_law_17 ?_
    refine zr_bipush (v := 40) hO dL_law_18 (by decide) ?_
    refine zV_pc (pc' := 20) rfl ?_
    refine zr_icmp_ge (tgt := 97) hO dL_law_20 (by decide) (fun c => ?_) (fun c => ?_)
    · rw [i_lt, nI_rng (by omega), show (40 : Int32).toInt = 40 from rfl] at c
      omega
    clear c
    refine zV_pc (pc' := 23) rfl ?_
    refine zr_aload_1 hO dL_law_23 ?_
    refine zr_iload_2 hO dL_law_24 ?_
    refine zr_aload_0 hO dL_law_25 ?_
    refine zr_iload_3 hO dL_law_26 ?_
    refine zr_bipush (v := 36) hO dL_law_27 (by decide) ?_
    refine zV_pc (pc' := 29) rfl ?_
    refine zr_irem hO dL_law_29 (by decide) ?_
    rw [show (36 : Int32) = nI 36 from rfl, modI (by omega) (by decide) (by decide)]
    refine zV_pc (pc' := 30) rfl ?_
    refine a_cell (k := t % 36) H (by omega) (Nat.le_of_ble_eq_true rfl) dL_law_30 (fun v => ?_)
    refine zV_pc (pc' := 33) rfl ?_
    refine zr_iload_3 hO dL_law_33 ?_
    refine zr_bipush (v := 36) hO dL_law_34 (by decide) ?_
    refine zV_pc (pc' := 36) rfl ?_
    refine zr_idiv hO dL_law_36 (by decide) ?_
    refine zV_pc (pc' := 37) rfl ?_
    refine zr_bipush (v := 11) hO dL_law_37 (by decide) ?_
    refine zr_imul hO dL_law_39 ?_
    refine zr_ishr hO dL_law_40 ?_
    refine zV_pc (pc' := 41) rfl ?_
    generalize v >>> _ = y
    refine z_callSH (D := 13) (As := [.ref x, .int (nI n), .int y]) hO hRm hL (by decide) (by decide) rfl (e_L_act (d := 12) htr hX hLL h hU h2n (by omega) (by omega) (by decide)) zl_L_46 zt_L_act zc_L_act rfl zn_L zd_L_act (Nat.le_of_ble_eq_true rfl) dL_law_41 (by omega) (by omega) (fun E z ly9 τ9 σ9 g => ?_) (fun v9 z ly9 τ9 σ9 g => ?_)
    · obtain ⟨_, _, _, g1, _⟩ := g
      cases g1
    obtain ⟨v1, A1, B1, g1, ⟨rfl, hU1, M1, h1⟩, rfl, hz, hly, hτ⟩ := g
    cases g1
    rw [hly, hτ]
    refine zV_S (S' := fun z => N ≤ z) (fun y hy => by subst hy; exact hz) ?_
    refine zV_pc (pc' := 44) rfl ?_
    refine zr_if_ne (tgt := 49) hO dL_law_44 (by decide) (fun c => ?_) (fun c => ?_)
    rotate_left
    · exact absurd c (by decide)
    clear c
    have c91 : ∀ A' B', zJT n (K + 24) (Bd + 600) A' M1 → zU B' → zV G X 6 (26 * j) (156 * j) (fun z => N ≤ z) ly τ (st2 σ x A' B') 91 [some (.ref G.2.2.2.1), some (.ref x), some (.int (nI n)), some (.int (nI t)), none, none, none, none, none] [] := by
      intro A' B' h' hU'
      refine zr_iinc_3 (v := 1) hO dL_law_91 (by decide) (by decide) rfl ?_
      refine zr_goto (tgt := 17) hO dL_law_94 (by decide) ?_
      rw [nI_1]
      exact ih (t + 1) (K + 24) (Bd + 600) A' B' M1 (by omega) h' hU' (by omega) (by omega)
    refine zr_iload_3 hO dL_law_49 ?_
    refine zr_iconst (v := 5) hO dL_law_50 (by decide) ?_
    refine zV_pc (pc' := 51) rfl ?_
    refine zr_irem hO dL_law_51 (by decide) ?_
    refine zV_pc (pc' := 52) rfl ?_
    refine zr_iconst (v := 4) hO dL_law_52 (by decide) ?_
    refine zV_pc (pc' := 53) rfl ?_
    refine zr_icmp_eq (tgt := 59) hO dL_law_53 (by decide) (fun c => ?_) (fun c => ?_)
    rotate_left
    · refine zV_pc (pc' := 56) rfl ?_
      refine zr_goto (tgt := 91) hO dL_law_56 (by decide) ?_
      exact zV_b (by omega) (by omega) (c91 A1 B1 h1 hU1)
    clear c
    refine zr_aload_1 hO dL_law_59 ?_
    refine zV_pc (pc' := 60) rfl ?_
    refine a_digest H h1 (by omega) (Nat.le_of_ble_eq_true rfl) dL_law_60 (fun A2 h2 => ?_)
    refine zV_pc (pc' := 63) rfl ?_
    refine zr_lstore_4 hO dL_law_63 (by decide) rfl ?_
    refine zr_aload_1 hO dL_law_65 ?_
    refine zV_pc (pc' := 66) rfl ?_
    refine z_callS (D := 13) (As := [.ref x]) hO hRm hL (by decide) (by decide) rfl (e_L_areTasksRight (d := 12) htr hX hLL h2 hU1 (by omega) (by decide)) zl_L_54 zt_L_areTasksRight zc_L_areTasksRight zn_L zd_L_areTasksRight (Nat.le_of_ble_eq_true rfl) dL_law_66 (by omega) (by omega) (fun E z ly9 τ9 σ9 g => ?_) (fun v9 z ly9 τ9 σ9 g => ?_)
    · obtain ⟨_, _, _, g1, _⟩ := g
      cases g1
    obtain ⟨v66, A66, B66, g1, ⟨rfl, hU66, h66⟩, rfl, hz, hly, hτ⟩ := g
    cases g1
    rw [hly, hτ]
    refine zV_S (S' := fun z => N ≤ z) (fun y hy => by subst hy; exact hz) ?_
    refine zV_pc (pc' := 69) rfl ?_
    refine zr_if_eq (tgt := 89) hO dL_law_69 (by decide) (fun c => ?_) (fun c => ?_)
    · exact absurd c (by decide)
    clear c
    refine zV_pc (pc' := 72) rfl ?_
    refine zr_aload_1 hO dL_law_72 ?_
    refine zV_pc (pc' := 73) rfl ?_
    refine z_callS (D := 13) (As := [.ref x]) hO hRm hL (by decide) (by decide) rfl (e_L_arePlacesRight (d := 12) htr hX hLL h66 hU66 (by omega) (by decide)) zl_L_58 zt_L_arePlacesRight zc_L_arePlacesRight zn_L zd_L_arePlacesRight (Nat.le_of_ble_eq_true rfl) dL_law_73 (by omega) (by omega) (fun E z ly9 τ9 σ9 g => ?_) (fun v9 z ly9 τ9 σ9 g => ?_)
    · obtain ⟨_, _, _, g1, _⟩ := g
      cases g1
    obtain ⟨v73, A73, B73, g1, ⟨rfl, hU73, h73⟩, rfl, hz, hly, hτ⟩ := g
    cases g1
    rw [hly, hτ]
    refine zV_S (S' := fun z => N ≤ z) (fun y hy => by subst hy; exact hz) ?_
    refine zV_pc (pc' := 76) rfl ?_
    refine zr_if_eq (tgt := 89) hO dL_law_76 (by decide) (fun c => ?_) (fun c => ?_)
    · exact absurd c (by decide)
    clear c
    refine zV_pc (pc' := 79) rfl ?_
    refine zr_aload_1 hO dL_law_79 ?_
    refine zV_pc (pc' := 80) rfl ?_
    refine a_digest H h73 (by omega) (Nat.le_of_ble_eq_true rfl) dL_law_80 (fun A5 h5 => ?_)
    refine zV_pc (pc' := 83) rfl ?_
    refine zr_lload_4 hO dL_law_83 ?_
    refine zV_pc (pc' := 85) rfl ?_
    refine zr_lcmp_eq (tgt := 91) hO dL_law_85 dL_law_86 (by decide) (fun c => ?_) (fun c => ?_)
    · refine zV_d4 (zV_d5 ?_)
      exact zV_b (by omega) (by omega) (c91 A5 B73 h5 hU73)
    · exact absurd rfl c
set_option maxRecDepth 100000 in
set_option maxHeartbeats 4000000 in
theorem law_body {G : zGm} {X : zCx} {l : Launch} {x : Nat} (hO : zOk G X RL cL_law 6) (hRm : zRm X 13) (hL : zLn X l) (htr : l.stackTraces = false) (hLL : G.2.2.2.2.1 ≤ 260) (hend : ∀ (S : Nat → Prop) (ly : zLy) (τ : zTu) (σ' : zSg) (ls : List (Option Value)), zV G X 6 0 0 S ly τ σ' 97 ls []) :
    zV G X 6 600130 7301080 (fun z => z = x) (fun _ => (0, 0, znr)) (fun _ _ => 0) (fun _ _ => 0) 0 [some (.ref G.2.2.2.1), none, none, none, none, none, none, none, none] [] := by
  refine zr_new (c := 6) hO (by decide) zk_L_20 zj_X6 zn_X6 (by omega) (by show 2 ≤ _; omega) dL_law_0 (fun q hq => ?_)
  subst hq
  rw [zrow_wr]
  refine zr_dup hO dL_law_3 rfl ?_
  refine zV_pc (pc' := 4) rfl ?_
  refine z_callI (As := []) hO hRm hL (d := 12) (by omega) (by decide) rfl rfl (e_X6_init htr (zlk_eq _ _ _) (by omega)) zl_L_41 zi_X6_init zc_X6_init zn_X6 zd_X6_init (Nat.le_of_ble_eq_true rfl) dL_law_4 (by omega) (by show 2148 ≤ 7301080 - 2; omega) (fun E z ly9 τ9 σ9 h => absurd h.1 (by simp)) (fun v z ly1 τ1 σ1 h => ?_)
  obtain ⟨h1, rfl, h3, h4, rfl⟩ := h
  cases h1
  refine zV_pc (pc' := 7) rfl ?_
  refine zr_astore_1 hO dL_law_7 (by decide) rfl ?_
  have hX := X6_stands (o := q) (ly := ly1) h3
  rw [X6_cells]
  refine zV_S (S' := fun z => q + 191 ≤ z) (fun z e => by omega) ?_
  show zV G X 6 _ _ _ ly1 τ1 (st2 (zwr (fun _ _ => 0) q 1 (fun _ _ => 0)) q cF_new cF_new) _ _ _
  generalize zwr (fun _ _ => 0) q 1 (fun _ _ => 0) = σ0
  refine zV_pc (pc' := 8) rfl ?_
  refine zr_aload_1 hO dL_law_8 ?_
  refine zr_aload_0 hO dL_law_9 ?_
  refine zr_iconst (v := 0) hO dL_law_10 (by decide) ?_
  refine zV_pc (pc' := 11) rfl ?_
  refine z_callS (D := 13) (As := [.ref q, .ref G.2.2.2.1, .int 0]) hO hRm hL (by decide) (by decide) rfl (e_L_made (d := 12) htr hX hLL zJT_new (fun u => congrFun (mF_new_0 (by decide) (by decide) (by decide)) u) (fun u => congrFun (mF_new_0 (by decide) (by decide) (by decide)) u) (by decide)) zl_L_42 zt_L_made zc_L_made zn_L zd_L_made (Nat.le_of_ble_eq_true rfl) dL_law_11 (by omega) (by show 360 ≤ 7301080 - 2 - 2148; omega) (fun E z ly9 τ9 σ9 g => ?_) (fun v9 z ly9 τ9 σ9 g => ?_)
  · obtain ⟨_, _, _, g1, _⟩ := g
    cases g1
  obtain ⟨v1, A1, B1, g1, ⟨rfl, n, M1, hn2, hn6, rfl, h⟩, rfl, hz, rfl, rfl⟩ := g
  cases g1
  refine zV_S (S' := fun z => q + 191 ≤ z) (fun y hy => by subst hy; exact hz) ?_
  refine zV_pc (pc' := 14) rfl ?_
  refine zr_istore_2 hO dL_law_14 (by decide) rfl ?_
  refine zr_iconst (v := 0) hO dL_law_15 (by decide) ?_
  refine zr_istore_3 hO dL_law_16 (by decide) rfl ?_
  refine zV_pc (pc' := 17) rfl ?_
  refine zV_b (bc' := 26 * 40) (bs' := 156 * 40) (by omega) (by show 156 * 40 ≤ 7301080 - 2 - 2148 - 360; omega) ?_
  exact law_loop hO hRm hL htr hX hLL hn2 (fun A B ls => hend _ _ _ _ ls) 40 0 0 0 A1 cF_new M1 (by decide) h zU_new (by decide) (by decide)
