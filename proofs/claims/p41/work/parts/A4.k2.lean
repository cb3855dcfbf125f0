/-! The law: what it calls of the class -/
section ZAC
variable {G : zGm} {X : zCx} {l : Launch} {D : Nat} {cc : ByteArray} {nL bc bs N x pc n K Bd : Nat} {ly : zLy} {τ : zTu} {σ A B M : zSg} {ls : List (Option Value)} {st : List Value}
theorem a_clock (H : zLw G X l D cc nL ly x) (h : zJT n K Bd A M) (hcat : (st.map fun v => v.category).sum ≤ 8) (hdg : decode cc pc = .ok (.invokevirtual 61, 3)) (kk : zV G X nL bc bs (fun z => N ≤ z) ly τ (st2 σ x A B) (pc + 3) ls (.int (M 0 1) :: st)) : zV G X nL bc bs (fun z => N ≤ z) ly τ (st2 σ x A B) pc ls (.ref x :: st) := by
  obtain ⟨⟨hO, hRm, hL, hD, htr⟩, ⟨hX, hA, hB⟩, -⟩ := H
  have hn := zJT_n h
  have e : A 0 9 = (M 0 1) := ze_clk (zI_E h.1.1)
  rw [st2_A] at kk ⊢
  rw [← e] at kk
  refine zr_V0 (D := D) hO hRm hL (by omega) (by decide) (c := 6) (by decide) hX rfl rfl (e_X6_clock (d := D - 1) htr hX hA (by omega)) zl_L_61 zi_X6_clock zs_X6_clock zc_X6_clock zn_X6 zd_X6_clock hcat hdg (Nat.zero_le _) (Nat.zero_le _) ?_
  exact kk
theorem a_idle (H : zLw G X l D cc nL ly x) (h : zJT n K Bd A M) (hcat : (st.map fun v => v.category).sum ≤ 8) (hdg : decode cc pc = .ok (.invokevirtual 65, 3)) (kk : zV G X nL bc bs (fun z => N ≤ z) ly τ (st2 σ x A B) (pc + 3) ls (.int (M 0 12) :: st)) : zV G X nL bc bs (fun z => N ≤ z) ly τ (st2 σ x A B) pc ls (.ref x :: st) := by
  obtain ⟨⟨hO, hRm, hL, hD, htr⟩, ⟨hX, hA, hB⟩, -⟩ := H
  have hn := zJT_n h
  have e : A 3 1 = (M 0 12) := by have d1 := h.1.2.1.2.1; rw [Int32.add_zero] at d1; exact d1
  rw [st2_A] at kk ⊢
  rw [← e] at kk
  refine zr_V0 (D := D) hO hRm hL (by omega) (by decide) (c := 6) (by decide) hX rfl rfl (e_X6_idle (d := D - 1) htr hX hA (by omega)) zl_L_65 zi_X6_idle zs_X6_idle zc_X6_idle zn_X6 zd_X6_idle hcat hdg (Nat.zero_le _) (Nat.zero_le _) ?_
  exact kk
theorem a_tasks (H : zLw G X l D cc nL ly x) (h : zJT n K Bd A M) (hcat : (st.map fun v => v.category).sum ≤ 8) (hdg : decode cc pc = .ok (.invokevirtual 119, 3)) (kk : zV G X nL bc bs (fun z => N ≤ z) ly τ (st2 σ x A B) (pc + 3) ls (.int (nI n) :: st)) : zV G X nL bc bs (fun z => N ≤ z) ly τ (st2 σ x A B) pc ls (.ref x :: st) := by
  obtain ⟨⟨hO, hRm, hL, hD, htr⟩, ⟨hX, hA, hB⟩, -⟩ := H
  have hn := zJT_n h
  have e : A 0 10 = (nI n) := (ze_n (zI_E h.1.1)).trans h.1.1.1.2
  rw [st2_A] at kk ⊢
  rw [← e] at kk
  refine zr_V0 (D := D) hO hRm hL (by omega) (by decide) (c := 6) (by decide) hX rfl rfl (e_X6_tasks (d := D - 1) htr hX hA (by omega)) zl_L_119 zi_X6_tasks zs_X6_tasks zc_X6_tasks zn_X6 zd_X6_tasks hcat hdg (Nat.zero_le _) (Nat.zero_le _) ?_
  exact kk
theorem a_processors (H : zLw G X l D cc nL ly x) (h : zJT n K Bd A M) (hcat : (st.map fun v => v.category).sum ≤ 8) (hdg : decode cc pc = .ok (.invokevirtual 114, 3)) (kk : zV G X nL bc bs (fun z => N ≤ z) ly τ (st2 σ x A B) (pc + 3) ls (.int (M 0 6) :: st)) : zV G X nL bc bs (fun z => N ≤ z) ly τ (st2 σ x A B) pc ls (.ref x :: st) := by
  obtain ⟨⟨hO, hRm, hL, hD, htr⟩, ⟨hX, hA, hB⟩, -⟩ := H
  have hn := zJT_n h
  have e : A 1 0 = (M 0 6) := ze_pr (zI_E h.1.1)
  rw [st2_A] at kk ⊢
  rw [← e] at kk
  refine zr_V0 (D := D) hO hRm hL (by omega) (by decide) (c := 6) (by decide) hX rfl rfl (e_X6_processors (d := D - 1) htr hX hA (by omega)) zl_L_114 zi_X6_processors zs_X6_processors zc_X6_processors zn_X6 zd_X6_processors hcat hdg (Nat.zero_le _) (Nat.zero_le _) ?_
  exact kk
theorem a_stuck (H : zLw G X l D cc nL ly x) (h : zJT n K Bd A M) (hcat : (st.map fun v => v.category).sum ≤ 8) (hdg : decode cc pc = .ok (.invokevirtual 148, 3)) (kk : zV G X nL bc bs (fun z => N ≤ z) ly τ (st2 σ x A B) (pc + 3) ls (.int (mF_stuck M) :: st)) : zV G X nL bc bs (fun z => N ≤ z) ly τ (st2 σ x A B) pc ls (.ref x :: st) := by
  obtain ⟨⟨hO, hRm, hL, hD, htr⟩, ⟨hX, hA, hB⟩, -⟩ := H
  have hn := zJT_n h
  have e : cF_stuck A = (mF_stuck M) := stuck_eq h.1.1
  rw [st2_A] at kk ⊢
  rw [← e] at kk
  refine zr_V0 (D := D) hO hRm hL (by omega) (by decide) (c := 6) (by decide) hX rfl rfl (e_X6_stuck (d := D - 1) htr hX hA (by omega)) zl_L_148 zi_X6_stuck zs_X6_stuck zc_X6_stuck zn_X6 zd_X6_stuck hcat hdg (Nat.zero_le _) (Nat.zero_le _) ?_
  exact kk
theorem a_load (H : zLw G X l D cc nL ly x) (h : zJT n K Bd A M) (hcat : (st.map fun v => v.category).sum ≤ 8) (hdg : decode cc pc = .ok (.invokevirtual 151, 3)) (kk : zV G X nL bc bs (fun z => N ≤ z) ly τ (st2 σ x A B) (pc + 3) ls (.double (mF_load M) :: st)) : zV G X nL bc bs (fun z => N ≤ z) ly τ (st2 σ x A B) pc ls (.ref x :: st) := by
  obtain ⟨⟨hO, hRm, hL, hD, htr⟩, ⟨hX, hA, hB⟩, -⟩ := H
  have hn := zJT_n h
  have e : cF_load A = (mF_load M) := load_eq h.1
  rw [st2_A] at kk ⊢
  rw [← e] at kk
  refine zr_V0 (D := D) hO hRm hL (by omega) (by decide) (c := 6) (by decide) hX rfl rfl (e_X6_load (d := D - 1) htr hX hA (by omega)) zl_L_151 zi_X6_load zs_X6_load zc_X6_load zn_X6 zd_X6_load hcat hdg (Nat.zero_le _) (Nat.zero_le _) ?_
  exact kk
theorem a_stateOf (H : zLw G X l D cc nL ly x) (h : zJT n K Bd A M) {t : Nat} (ht : t < n) (hcat : (st.map fun v => v.category).sum ≤ 8) (hdg : decode cc pc = .ok (.invokevirtual 74, 3)) (kk : zV G X nL bc bs (fun z => N ≤ z) ly τ (st2 σ x A B) (pc + 3) ls (.int (M 41 t) :: st)) : zV G X nL bc bs (fun z => N ≤ z) ly τ (st2 σ x A B) pc ls (.int (nI t) :: .ref x :: st) := by
  obtain ⟨⟨hO, hRm, hL, hD, htr⟩, ⟨hX, hA, hB⟩, -⟩ := H
  have hn := zJT_n h
  have hok := (t_task h ht).2
  have e : A (ztk t) 5 = (M 41 t) := ze_st (zI_E h.1.1) (by omega)
  rw [st2_A] at kk ⊢
  rw [← e] at kk
  refine zr_V1 (D := D) hO hRm hL (by omega) (by decide) (c := 6) (by decide) hX rfl rfl (e_X6_stateOf_k (d := D - 1) htr hX hA (by omega) hok) zl_L_74 zi_X6_stateOf zs_X6_stateOf zc_X6_stateOf zn_X6 zd_X6_stateOf hcat hdg (Nat.zero_le _) (Nat.zero_le _) ?_
  exact kk
theorem a_standOf (H : zLw G X l D cc nL ly x) (h : zJT n K Bd A M) {t : Nat} (ht : t < n) (hcat : (st.map fun v => v.category).sum ≤ 8) (hdg : decode cc pc = .ok (.invokevirtual 71, 3)) (kk : zV G X nL bc bs (fun z => N ≤ z) ly τ (st2 σ x A B) (pc + 3) ls (.int (M 45 t) :: st)) : zV G X nL bc bs (fun z => N ≤ z) ly τ (st2 σ x A B) pc ls (.int (nI t) :: .ref x :: st) := by
  obtain ⟨⟨hO, hRm, hL, hD, htr⟩, ⟨hX, hA, hB⟩, -⟩ := H
  have hn := zJT_n h
  have hok := (t_task h ht).2
  have e : A (ztk t) 9 = (M 45 t) := ze_stand (zI_E h.1.1) ht
  rw [st2_A] at kk ⊢
  rw [← e] at kk
  refine zr_V1 (D := D) hO hRm hL (by omega) (by decide) (c := 6) (by decide) hX rfl rfl (e_X6_standOf_k (d := D - 1) htr hX hA (by omega) hok) zl_L_71 zi_X6_standOf zs_X6_standOf zc_X6_standOf zn_X6 zd_X6_standOf hcat hdg (Nat.zero_le _) (Nat.zero_le _) ?_
  exact kk
theorem a_levelOf (H : zLw G X l D cc nL ly x) (h : zJT n K Bd A M) {t : Nat} (ht : t < n) (hcat : (st.map fun v => v.category).sum ≤ 8) (hdg : decode cc pc = .ok (.invokevirtual 134, 3)) (kk : zV G X nL bc bs (fun z => N ≤ z) ly τ (st2 σ x A B) (pc + 3) ls (.int (M 46 t) :: st)) : zV G X nL bc bs (fun z => N ≤ z) ly τ (st2 σ x A B) pc ls (.int (nI t) :: .ref x :: st) := by
  obtain ⟨⟨hO, hRm, hL, hD, htr⟩, ⟨hX, hA, hB⟩, -⟩ := H
  have hn := zJT_n h
  have hok := (t_task h ht).2
  have e : A (ztk t) 10 = (M 46 t) := ze_lev (zI_E h.1.1) (by omega)
  rw [st2_A] at kk ⊢
  rw [← e] at kk
  refine zr_V1 (D := D) hO hRm hL (by omega) (by decide) (c := 6) (by decide) hX rfl rfl (e_X6_levelOf_k (d := D - 1) htr hX hA (by omega) hok) zl_L_134 zi_X6_levelOf zs_X6_levelOf zc_X6_levelOf zn_X6 zd_X6_levelOf hcat hdg (Nat.zero_le _) (Nat.zero_le _) ?_
  exact kk
theorem a_keyOf (H : zLw G X l D cc nL ly x) (h : zJT n K Bd A M) {t : Nat} (ht : t < n) (hcat : (st.map fun v => v.category).sum ≤ 8) (hdg : decode cc pc = .ok (.invokevirtual 131, 3)) (kk : zV G X nL bc bs (fun z => N ≤ z) ly τ (st2 σ x A B) (pc + 3) ls (.int (mF_key M (nI t)) :: st)) : zV G X nL bc bs (fun z => N ≤ z) ly τ (st2 σ x A B) pc ls (.int (nI t) :: .ref x :: st) := by
  obtain ⟨⟨hO, hRm, hL, hD, htr⟩, ⟨hX, hA, hB⟩, -⟩ := H
  have hn := zJT_n h
  have hok := (t_task h ht).2
  have e : cF_key A t (A 1 1) = (mF_key M (nI t)) := key_eq h.1.1 ht
  rw [st2_A] at kk ⊢
  rw [← e] at kk
  refine zr_V1 (D := D) hO hRm hL (by omega) (by decide) (c := 6) (by decide) hX rfl rfl (e_X6_keyOf_k (d := D - 1) htr hX hA (by omega) hok) zl_L_131 zi_X6_keyOf zs_X6_keyOf zc_X6_keyOf zn_X6 zd_X6_keyOf hcat hdg (Nat.zero_le _) (Nat.zero_le _) ?_
  exact kk
theorem a_lentKey (H : zLw G X l D cc nL ly x) (h : zJT n K Bd A M) {t : Nat} (ht : t < n) (hcat : (st.map fun v => v.category).sum ≤ 8) (hdg : decode cc pc = .ok (.invokevirtual 128, 3)) (kk : ∀ A', zJT n K Bd A' M → zV G X nL bc bs (fun z => N ≤ z) ly τ (st2 σ x A' B) (pc + 3) ls (.int (mF_lent M (nI t)) :: st)) : zV G X nL bc bs (fun z => N ≤ z) ly τ (st2 σ x A B) pc ls (.int (nI t) :: .ref x :: st) := by
  obtain ⟨⟨hO, hRm, hL, hD, htr⟩, ⟨hX, hA, hB⟩, -⟩ := H
  have hn := zJT_n h
  have hok := (t_task h ht).2
  have kk := kk (cF_lent A) ⟨zQR_lent h.1, h.2⟩
  have e : cF_lent A (ztk t) 15 = (mF_lent M (nI t)) := lent_eq h.1.1 ht
  rw [st2_A] at kk ⊢
  rw [← e] at kk
  refine zr_V1 (D := D) hO hRm hL (by omega) (by decide) (c := 6) (by decide) hX rfl rfl (e_X6_lentKey_k (d := D - 1) htr hX hA (by omega) hok) zl_L_128 zi_X6_lentKey zs_X6_lentKey zc_X6_lentKey zn_X6 zd_X6_lentKey hcat hdg (Nat.zero_le _) (Nat.zero_le _) ?_
  exact kk
theorem a_told (H : zLw G X l D cc nL ly x) (h : zJT n K Bd A M) {t : Nat} (ht : t < n) {w : Nat} (hw : w < 5) (hcat : (st.map fun v => v.category).sum ≤ 8) (hdg : decode cc pc = .ok (.invokevirtual 84, 3)) (kk : zV G X nL bc bs (fun z => N ≤ z) ly τ (st2 σ x A B) (pc + 3) ls (.int (M (52 + t) w) :: st)) : zV G X nL bc bs (fun z => N ≤ z) ly τ (st2 σ x A B) pc ls (.int (nI w) :: .int (nI t) :: .ref x :: st) := by
  obtain ⟨⟨hO, hRm, hL, hD, htr⟩, ⟨hX, hA, hB⟩, -⟩ := H
  have hn := zJT_n h
  have hok := (t_task h ht).2
  have e : cF_tell A t (nI w) = (M (52 + t) w) := (tell_nI A t hw).trans (ze_cnt hn (zI_E h.1.1) ht hw)
  rw [st2_A] at kk ⊢
  rw [← e] at kk
  refine zr_V2 (D := D) hO hRm hL (by omega) (by decide) (c := 6) (by decide) hX rfl rfl (e_X6_told_k (d := D - 1) htr hX hA (by omega) hok (nI_pos (by omega)) (zlt_T (x := 5) (by decide) hw)) zl_L_84 zi_X6_told zs_X6_told zc_X6_told zn_X6 zd_X6_told hcat hdg (Nat.zero_le _) (Nat.zero_le _) ?_
  exact kk
theorem a_on (H : zLw G X l D cc nL ly x) (h : zJT n K Bd A M) {p : Nat} (hp : p < ix (M 0 6)) (hcat : (st.map fun v => v.category).sum ≤ 8) (hdg : decode cc pc = .ok (.invokevirtual 122, 3)) (kk : zV G X nL bc bs (fun z => N ≤ z) ly τ (st2 σ x A B) (pc + 3) ls (.int (M 68 p) :: st)) : zV G X nL bc bs (fun z => N ≤ z) ly τ (st2 σ x A B) pc ls (.int (nI p) :: .ref x :: st) := by
  obtain ⟨⟨hO, hRm, hL, hD, htr⟩, ⟨hX, hA, hB⟩, -⟩ := H
  have hn := zJT_n h
  have hp3 := zmW_p3 (zI_W h.1.1)
  have hok : cR_proc A (nI p) = none := proc_nI (n := ix (M 0 6)) ((ze_pr (zI_E h.1.1)).trans (nI_ix (zmW_p (zI_W h.1.1))).symm) hp3 hp
  have e : cF_on A (nI p) = (M 68 p) := (on_nI A (by omega)).trans (ze_on (zI_E h.1.1) (by omega))
  rw [st2_A] at kk ⊢
  rw [← e] at kk
  refine zr_V1 (D := D) hO hRm hL (by omega) (by decide) (c := 6) (by decide) hX rfl rfl (e_X6_on_k (d := D - 1) htr hX hA (by omega) hok) zl_L_122 zi_X6_on zs_X6_on zc_X6_on zn_X6 zd_X6_on hcat hdg (Nat.zero_le _) (Nat.zero_le _) ?_
  exact kk
theorem a_ran (H : zLw G X l D cc nL ly x) (h : zJT n K Bd A M) {p : Nat} (hp : p < ix (M 0 6)) (hK : K ≤ 190000) (hcat : (st.map fun v => v.category).sum ≤ 8) (hdg : decode cc pc = .ok (.invokevirtual 143, 3)) (kk : zV G X nL bc bs (fun z => N ≤ z) ly τ (st2 σ x A B) (pc + 3) ls (.int (mF_ran M (nI p) 1) :: st)) : zV G X nL bc bs (fun z => N ≤ z) ly τ (st2 σ x A B) pc ls (.int 1 :: .int (nI p) :: .ref x :: st) := by
  obtain ⟨⟨hO, hRm, hL, hD, htr⟩, ⟨hX, hA, hB⟩, -⟩ := H
  have hn := zJT_n h
  have hp3 := zmW_p3 (zI_W h.1.1)
  have hok : cR_proc A (nI p) = none := proc_nI (n := ix (M 0 6)) ((ze_pr (zI_E h.1.1)).trans (nI_ix (zmW_p (zI_W h.1.1))).symm) hp3 hp
  have e : cF_ranIn A (nI p) (A 0 9 - 1) = (mF_ran M (nI p) 1) := ran_eq h.1 hK (by omega) (by decide)
  rw [st2_A] at kk ⊢
  rw [← e] at kk
  refine zr_V2 (D := D) hO hRm hL (by omega) (by decide) (c := 6) (by decide) hX rfl rfl (e_X6_ran_k (d := D - 1) htr hX hA (by omega) hok (by decide) (by decide)) zl_L_143 zi_X6_ran zs_X6_ran zc_X6_ran zn_X6 zd_X6_ran hcat hdg (Nat.zero_le _) (Nat.zero_le _) ?_
  exact kk
theorem a_holder (H : zLw G X l D cc nL ly x) (h : zJT n K Bd A M) {q : Nat} (hq : q < 6) (hcat : (st.map fun v => v.category).sum ≤ 8) (hdg : decode cc pc = .ok (.invokevirtual 140, 3)) (kk : zV G X nL bc bs (fun z => N ≤ z) ly τ (st2 σ x A B) (pc + 3) ls (.int (M 101 q) :: st)) : zV G X nL bc bs (fun z => N ≤ z) ly τ (st2 σ x A B) pc ls (.int (nI q) :: .ref x :: st) := by
  obtain ⟨⟨hO, hRm, hL, hD, htr⟩, ⟨hX, hA, hB⟩, -⟩ := H
  have hn := zJT_n h
  have hok : cR_lock (nI q) = none := lock_nI hq
  have e : cF_holder A (nI q) = (M 101 q) := (cF_holder_nI A hq).trans (ze_hold (zI_E h.1.1) hq)
  rw [st2_A] at kk ⊢
  rw [← e] at kk
  refine zr_V1 (D := D) hO hRm hL (by omega) (by decide) (c := 6) (by decide) hX rfl rfl (e_X6_holder_k (d := D - 1) htr hX hA (by omega) hok) zl_L_140 zi_X6_holder zs_X6_holder zc_X6_holder zn_X6 zd_X6_holder hcat hdg (Nat.zero_le _) (Nat.zero_le _) ?_
  exact kk
theorem a_number (H : zLw G X l D cc nL ly x) (h : zJT n K Bd A M) {q : Nat} (hq : q < 6) (hcat : (st.map fun v => v.category).sum ≤ 8) (hdg : decode cc pc = .ok (.invokevirtual 87, 3)) (kk : zV G X nL bc bs (fun z => N ≤ z) ly τ (st2 σ x A B) (pc + 3) ls (.int (M 102 q) :: st)) : zV G X nL bc bs (fun z => N ≤ z) ly τ (st2 σ x A B) pc ls (.int (nI q) :: .ref x :: st) := by
  obtain ⟨⟨hO, hRm, hL, hD, htr⟩, ⟨hX, hA, hB⟩, -⟩ := H
  have hn := zJT_n h
  have hok : cR_lock (nI q) = none := lock_nI hq
  have e : cF_number A (nI q) = (M 102 q) := (number_nI A hq).trans (ze_sig (zI_E h.1.1) hq)
  rw [st2_A] at kk ⊢
  rw [← e] at kk
  refine zr_V1 (D := D) hO hRm hL (by omega) (by decide) (c := 6) (by decide) hX rfl rfl (e_X6_number_k (d := D - 1) htr hX hA (by omega) hok) zl_L_87 zi_X6_number zs_X6_number zc_X6_number zn_X6 zd_X6_number hcat hdg (Nat.zero_le _) (Nat.zero_le _) ?_
  exact kk
theorem a_blocked (H : zLw G X l D cc nL ly x) (h : zJT n K Bd A M) {q : Nat} (hq : q < 6) (hcat : (st.map fun v => v.category).sum ≤ 8) (hdg : decode cc pc = .ok (.invokevirtual 125, 3)) (kk : zV G X nL bc bs (fun z => N ≤ z) ly τ (st2 σ x A B) (pc + 3) ls (.int (mF_those M 4 (nI q)) :: st)) : zV G X nL bc bs (fun z => N ≤ z) ly τ (st2 σ x A B) pc ls (.int (nI q) :: .ref x :: st) := by
  obtain ⟨⟨hO, hRm, hL, hD, htr⟩, ⟨hX, hA, hB⟩, -⟩ := H
  have hn := zJT_n h
  have hok : cR_lock (nI q) = none := lock_nI hq
  have e : cF_wt A 4 (nI q) = (mF_those M 4 (nI q)) := those_eq h.1.1 (Or.inl rfl) hq
  rw [st2_A] at kk ⊢
  rw [← e] at kk
  refine zr_V1 (D := D) hO hRm hL (by omega) (by decide) (c := 6) (by decide) hX rfl rfl (e_X6_blocked_k (d := D - 1) htr hX hA (by omega) hok) zl_L_125 zi_X6_blocked zs_X6_blocked zc_X6_blocked zn_X6 zd_X6_blocked hcat hdg (Nat.zero_le _) (Nat.zero_le _) ?_
  exact kk
theorem a_awaiting (H : zLw G X l D cc nL ly x) (h : zJT n K Bd A M) {q : Nat} (hq : q < 6) (hcat : (st.map fun v => v.category).sum ≤ 8) (hdg : decode cc pc = .ok (.invokevirtual 90, 3)) (kk : zV G X nL bc bs (fun z => N ≤ z) ly τ (st2 σ x A B) (pc + 3) ls (.int (mF_those M 5 (nI q)) :: st)) : zV G X nL bc bs (fun z => N ≤ z) ly τ (st2 σ x A B) pc ls (.int (nI q) :: .ref x :: st) := by
  obtain ⟨⟨hO, hRm, hL, hD, htr⟩, ⟨hX, hA, hB⟩, -⟩ := H
  have hn := zJT_n h
  have hok : cR_lock (nI q) = none := lock_nI hq
  have e : cF_wt A 5 (nI q) = (mF_those M 5 (nI q)) := those_eq h.1.1 (Or.inr rfl) hq
  rw [st2_A] at kk ⊢
  rw [← e] at kk
  refine zr_V1 (D := D) hO hRm hL (by omega) (by decide) (c := 6) (by decide) hX rfl rfl (e_X6_awaiting_k (d := D - 1) htr hX hA (by omega) hok) zl_L_90 zi_X6_awaiting zs_X6_awaiting zc_X6_awaiting zn_X6 zd_X6_awaiting hcat hdg (Nat.zero_le _) (Nat.zero_le _) ?_
  exact kk
theorem a_digest (H : zLw G X l D cc nL ly x) (h : zJT n K Bd A M) (hK : K ≤ 190000) (hcat : (st.map fun v => v.category).sum ≤ 8) (hdg : decode cc pc = .ok (.invokevirtual 50, 3)) (kk : ∀ A', zJT n K Bd A' M → zV G X nL bc bs (fun z => N ≤ z) ly τ (st2 σ x A' B) (pc + 3) ls (.long (mF_digest M) :: st)) : zV G X nL bc bs (fun z => N ≤ z) ly τ (st2 σ x A B) pc ls (.ref x :: st) := by
  obtain ⟨⟨hO, hRm, hL, hD, htr⟩, ⟨hX, hA, hB⟩, -⟩ := H
  have hn := zJT_n h
  obtain ⟨d1, d2⟩ := digest_eq h.1 hK
  have kk := kk (cF_digest A).1 ⟨d1, h.2⟩
  rw [st2_A] at kk ⊢
  rw [← d2] at kk
  refine zr_V0 (D := D) hO hRm hL (by omega) (by decide) (c := 6) (by decide) hX rfl rfl (e_X6_digest (d := D - 1) (nn := n) (pp := ix (M 0 6)) htr hX hA (by omega) ((ze_n (zI_E h.1.1)).trans h.1.1.1.2) hn ((ze_pr (zI_E h.1.1)).trans (nI_ix (zmW_p (zI_W h.1.1))).symm) (zmW_p3 (zI_W h.1.1))) zl_L_50 zi_X6_digest zs_X6_digest zc_X6_digest zn_X6 zd_X6_digest hcat hdg (Nat.zero_le _) (Nat.zero_le _) ?_
  exact kk
theorem a_doneIn (H : zLw G X l D cc nL ly x) (h : zJT n K Bd A M) {t : Nat} (ht : t < n) (h6 : M 41 t = 6) (hK : K + 240 ≤ 190000) (hU : zU B) (hb1 : 1 ≤ bc) (hb2 : 6 ≤ bs) (hcat : (st.map fun v => v.category).sum ≤ 8) (hdg : decode cc pc = .ok (.invokevirtual 137, 3)) (kk : ∀ B', zU B' → zV G X nL (bc - 1) (bs - 6) (fun z => N ≤ z) ly τ (st2 σ x A B') (pc + 3) ls (.int 0 :: st)) : zV G X nL bc bs (fun z => N ≤ z) ly τ (st2 σ x A B) pc ls (.int 1 :: .int (nI t) :: .ref x :: st) := by
  obtain ⟨⟨hO, hRm, hL, hD, htr⟩, ⟨hX, hA, hB⟩, -⟩ := H
  have hn := zJT_n h
  obtain ⟨B3, hR, hU3⟩ := t_doneIn h hU hK ht h6
  have kk := kk B3 hU3
  unfold st2 at kk ⊢
  refine z_callV (D := D) (As := [.int (nI t), .int 1]) hO hRm hL (by omega) (by decide) (c := 6) (by decide) hX rfl rfl (e_X6_doneIn (d := D - 1) (B := B) htr hX hA hB (by omega) (by omega)) zl_L_137 zi_X6_doneIn zs_X6_doneIn zc_X6_doneIn zn_X6 zd_X6_doneIn hcat hdg hb1 hb2 (fun E z ly9 τ9 σ9 g => ?_) (fun v9 z ly9 τ9 σ9 g => ?_)
  · obtain ⟨g1, rfl, rfl, g4⟩ := g
    rw [hR] at g4
    exact absurd g4.1 (by simp)
  · obtain ⟨g1, rfl, rfl, g4⟩ := g
    rw [hR] at g4
    obtain ⟨g4, rfl⟩ := g4
    cases g4
    refine zV_S (S' := fun z => N ≤ z) (fun y hy => by subst hy; exact g1) ?_
    exact kk
theorem a_stuckIn (H : zLw G X l D cc nL ly x) (h : zJT n K Bd A M) (hK : K + 4 ≤ 190000) (hU : zU B) (hb1 : 1 ≤ bc) (hb2 : 6 ≤ bs) (hcat : (st.map fun v => v.category).sum ≤ 8) (hdg : decode cc pc = .ok (.invokevirtual 145, 3)) (kk : ∀ B', zU B' → zV G X nL (bc - 1) (bs - 6) (fun z => N ≤ z) ly τ (st2 σ x A B') (pc + 3) ls (.int (mS M) :: st)) : zV G X nL bc bs (fun z => N ≤ z) ly τ (st2 σ x A B) pc ls (.int 1 :: .ref x :: st) := by
  obtain ⟨⟨hO, hRm, hL, hD, htr⟩, ⟨hX, hA, hB⟩, -⟩ := H
  have hn := zJT_n h
  obtain ⟨B3, hR, hU3⟩ := t_stuckIn h hU hK
  have kk := kk B3 hU3
  unfold st2 at kk ⊢
  refine z_callV (D := D) (As := [.int 1]) hO hRm hL (by omega) (by decide) (c := 6) (by decide) hX rfl rfl (e_X6_stuckIn (d := D - 1) (B := B) htr hX hA hB (by omega) (by omega)) zl_L_145 zi_X6_stuckIn zs_X6_stuckIn zc_X6_stuckIn zn_X6 zd_X6_stuckIn hcat hdg hb1 hb2 (fun E z ly9 τ9 σ9 g => ?_) (fun v9 z ly9 τ9 σ9 g => ?_)
  · obtain ⟨g1, rfl, rfl, g4⟩ := g
    rw [hR] at g4
    exact absurd g4.1 (by simp)
  · obtain ⟨g1, rfl, rfl, g4⟩ := g
    rw [hR] at g4
    obtain ⟨g4, rfl⟩ := g4
    cases g4
    refine zV_S (S' := fun z => N ≤ z) (fun y hy => by subst hy; exact g1) ?_
    exact kk
theorem a_idleIn (H : zLw G X l D cc nL ly x) (h : zJT n K Bd A M) {j : Nat} {M' : zSg} (h1 : 1 ≤ j) (hj : j ≤ 40) (hK : K + 4 * j ≤ 190000) (hM : mF_ticks 17 j M = some M') (hU : zU B) (hb1 : 1 ≤ bc) (hb2 : 6 ≤ bs) (hcat : (st.map fun v => v.category).sum ≤ 8) (hdg : decode cc pc = .ok (.invokevirtual 104, 3)) (kk : ∀ B', zU B' → zV G X nL (bc - 1) (bs - 6) (fun z => N ≤ z) ly τ (st2 σ x A B') (pc + 3) ls (.int (M' 0 12 - M 0 12) :: st)) : zV G X nL bc bs (fun z => N ≤ z) ly τ (st2 σ x A B) pc ls (.int (nI j) :: .ref x :: st) := by
  obtain ⟨⟨hO, hRm, hL, hD, htr⟩, ⟨hX, hA, hB⟩, -⟩ := H
  have hn := zJT_n h
  obtain ⟨B3, hR, hU3⟩ := t_idleIn h hU h1 hj hK hM
  have kk := kk B3 hU3
  unfold st2 at kk ⊢
  refine z_callV (D := D) (As := [.int (nI j)]) hO hRm hL (by omega) (by decide) (c := 6) (by decide) hX rfl rfl (e_X6_idleIn (d := D - 1) (B := B) htr hX hA hB (by omega) (by omega)) zl_L_104 zi_X6_idleIn zs_X6_idleIn zc_X6_idleIn zn_X6 zd_X6_idleIn hcat hdg hb1 hb2 (fun E z ly9 τ9 σ9 g => ?_) (fun v9 z ly9 τ9 σ9 g => ?_)
  · obtain ⟨g1, rfl, rfl, g4⟩ := g
    rw [hR] at g4
    exact absurd g4.1 (by simp)
  · obtain ⟨g1, rfl, rfl, g4⟩ := g
    rw [hR] at g4
    obtain ⟨g4, rfl⟩ := g4
    cases g4
    refine zV_S (S' := fun z => N ≤ z) (fun y hy => by subst hy; exact g1) ?_
    exact kk
theorem a_setWay (H : zLw G X l D cc nL ly x) (h : zJT n K Bd A M) {a b c : Int32} (ha : mF_is a 0 2 = true) (hb : mF_is b 1 10 = true) (hc : mF_is c 0 50 = true) (hb1 : 1 ≤ bc) (hb2 : 6 ≤ bs) (hcat : (st.map fun v => v.category).sum ≤ 8) (hdg : decode cc pc = .ok (.invokevirtual 32, 3)) (kk : ∀ A' v M', zJT n K Bd A' M' → zV G X nL (bc - 1) (bs - 6) (fun z => N ≤ z) ly τ (st2 σ x A' B) (pc + 3) ls (.int v :: st)) : zV G X nL bc bs (fun z => N ≤ z) ly τ (st2 σ x A B) pc ls (.int c :: .int b :: .int a :: .ref x :: st) := by
  obtain ⟨⟨hO, hRm, hL, hD, htr⟩, ⟨hX, hA, hB⟩, -⟩ := H
  have hn := zJT_n h
  obtain ⟨A', v, M', hR, hh⟩ := t_setWay h ha hb hc
  have kk := kk A' v M' hh
  rw [st2_A] at kk ⊢
  refine z_callV (D := D) (As := [.int a, .int b, .int c]) hO hRm hL (by omega) (by decide) (c := 6) (by decide) hX rfl rfl (e_X6_setWay (d := D - 1) htr hX hA (by omega)) zl_L_32 zi_X6_setWay zs_X6_setWay zc_X6_setWay zn_X6 zd_X6_setWay hcat hdg hb1 hb2 (fun E z ly9 τ9 σ9 g => ?_) (fun v9 z ly9 τ9 σ9 g => ?_)
  · obtain ⟨g1, rfl, rfl, g4⟩ := g
    rw [hR] at g4
    exact absurd g4.1 (by simp)
  · obtain ⟨g1, rfl, rfl, g4⟩ := g
    rw [hR] at g4
    obtain ⟨g4, rfl⟩ := g4
    cases g4
    refine zV_S (S' := fun z => N ≤ z) (fun y hy => by subst hy; exact g1) ?_
    exact kk
theorem a_setPeriod (H : zLw G X l D cc nL ly x) (h : zJT n K Bd A M) {a : Int32} (ha : mF_is a 1 50 = true) (hb1 : 1 ≤ bc) (hb2 : 6 ≤ bs) (hcat : (st.map fun v => v.category).sum ≤ 8) (hdg : decode cc pc = .ok (.invokevirtual 35, 3)) (kk : ∀ A' v M', zJT n K Bd A' M' → zV G X nL (bc - 1) (bs - 6) (fun z => N ≤ z) ly τ (st2 σ x A' B) (pc + 3) ls (.int v :: st)) : zV G X nL bc bs (fun z => N ≤ z) ly τ (st2 σ x A B) pc ls (.int a :: .ref x :: st) := by
  obtain ⟨⟨hO, hRm, hL, hD, htr⟩, ⟨hX, hA, hB⟩, -⟩ := H
  have hn := zJT_n h
  obtain ⟨A', v, M', hR, hh⟩ := t_setPeriod h ha
  have kk := kk A' v M' hh
  rw [st2_A] at kk ⊢
  refine z_callV (D := D) (As := [.int a]) hO hRm hL (by omega) (by decide) (c := 6) (by decide) hX rfl rfl (e_X6_setPeriod (d := D - 1) htr hX hA (by omega)) zl_L_35 zi_X6_setPeriod zs_X6_setPeriod zc_X6_setPeriod zn_X6 zd_X6_setPeriod hcat hdg hb1 hb2 (fun E z ly9 τ9 σ9 g => ?_) (fun v9 z ly9 τ9 σ9 g => ?_)
  · obtain ⟨g1, rfl, rfl, g4⟩ := g
    rw [hR] at g4
    exact absurd g4.1 (by simp)
  · obtain ⟨g1, rfl, rfl, g4⟩ := g
    rw [hR] at g4
    obtain ⟨g4, rfl⟩ := g4
    cases g4
    refine zV_S (S' := fun z => N ≤ z) (fun y hy => by subst hy; exact g1) ?_
    exact kk
theorem a_setQuota (H : zLw G X l D cc nL ly x) (h : zJT n K Bd A M) {a b : Int32} (ha : mF_is a 0 3 = true) (hb : mF_is b 0 50 = true) (hb1 : 1 ≤ bc) (hb2 : 6 ≤ bs) (hcat : (st.map fun v => v.category).sum ≤ 8) (hdg : decode cc pc = .ok (.invokevirtual 38, 3)) (kk : ∀ A' v M', zJT n K Bd A' M' → zV G X nL (bc - 1) (bs - 6) (fun z => N ≤ z) ly τ (st2 σ x A' B) (pc + 3) ls (.int v :: st)) : zV G X nL bc bs (fun z => N ≤ z) ly τ (st2 σ x A B) pc ls (.int b :: .int a :: .ref x :: st) := by
  obtain ⟨⟨hO, hRm, hL, hD, htr⟩, ⟨hX, hA, hB⟩, -⟩ := H
  have hn := zJT_n h
  obtain ⟨A', v, M', hR, hh⟩ := t_setQuota h ha hb
  have kk := kk A' v M' hh
  rw [st2_A] at kk ⊢
  refine z_callV (D := D) (As := [.int a, .int b]) hO hRm hL (by omega) (by decide) (c := 6) (by decide) hX rfl rfl (e_X6_setQuota (d := D - 1) htr hX hA (by omega)) zl_L_38 zi_X6_setQuota zs_X6_setQuota zc_X6_setQuota zn_X6 zd_X6_setQuota hcat hdg hb1 hb2 (fun E z ly9 τ9 σ9 g => ?_) (fun v9 z ly9 τ9 σ9 g => ?_)
  · obtain ⟨g1, rfl, rfl, g4⟩ := g
    rw [hR] at g4
    exact absurd g4.1 (by simp)
  · obtain ⟨g1, rfl, rfl, g4⟩ := g
    rw [hR] at g4
    obtain ⟨g4, rfl⟩ := g4
    cases g4
    refine zV_S (S' := fun z => N ≤ z) (fun y hy => by subst hy; exact g1) ?_
    exact kk
theorem a_setProcessors (H : zLw G X l D cc nL ly x) (h : zJT n K Bd A M) {a : Int32} (ha : mF_is a 1 3 = true) (hb1 : 1 ≤ bc) (hb2 : 6 ≤ bs) (hcat : (st.map fun v => v.category).sum ≤ 8) (hdg : decode cc pc = .ok (.invokevirtual 28, 3)) (kk : ∀ A' v M', zJT n K Bd A' M' → zV G X nL (bc - 1) (bs - 6) (fun z => N ≤ z) ly τ (st2 σ x A' B) (pc + 3) ls (.int v :: st)) : zV G X nL bc bs (fun z => N ≤ z) ly τ (st2 σ x A B) pc ls (.int a :: .ref x :: st) := by
  obtain ⟨⟨hO, hRm, hL, hD, htr⟩, ⟨hX, hA, hB⟩, -⟩ := H
  have hn := zJT_n h
  obtain ⟨A', v, M', hR, hh⟩ := t_setProcessors h ha
  have kk := kk A' v M' hh
  rw [st2_A] at kk ⊢
  refine z_callV (D := D) (As := [.int a]) hO hRm hL (by omega) (by decide) (c := 6) (by decide) hX rfl rfl (e_X6_setProcessors (d := D - 1) htr hX hA (by omega)) zl_L_28 zi_X6_setProcessors zs_X6_setProcessors zc_X6_setProcessors zn_X6 zd_X6_setProcessors hcat hdg hb1 hb2 (fun E z ly9 τ9 σ9 g => ?_) (fun v9 z ly9 τ9 σ9 g => ?_)
  · obtain ⟨g1, rfl, rfl, g4⟩ := g
    rw [hR] at g4
    exact absurd g4.1 (by simp)
  · obtain ⟨g1, rfl, rfl, g4⟩ := g
    rw [hR] at g4
    obtain ⟨g4, rfl⟩ := g4
    cases g4
    refine zV_S (S' := fun z => N ≤ z) (fun y hy => by subst hy; exact g1) ?_
    exact kk
theorem a_setRank (H : zLw G X l D cc nL ly x) (h : zJT n K Bd A M) {t : Nat} {r : Int32} (ht : t < n) (hr : mF_is r 0 7 = true) (hb1 : 1 ≤ bc) (hb2 : 6 ≤ bs) (hcat : (st.map fun v => v.category).sum ≤ 8) (hdg : decode cc pc = .ok (.invokevirtual 101, 3)) (kk : ∀ A' v M', zJT n K Bd A' M' → zV G X nL (bc - 1) (bs - 6) (fun z => N ≤ z) ly τ (st2 σ x A' B) (pc + 3) ls (.int v :: st)) : zV G X nL bc bs (fun z => N ≤ z) ly τ (st2 σ x A B) pc ls (.int r :: .int (nI t) :: .ref x :: st) := by
  obtain ⟨⟨hO, hRm, hL, hD, htr⟩, ⟨hX, hA, hB⟩, -⟩ := H
  have hn := zJT_n h
  obtain ⟨A', v, M', hR, hh⟩ := t_setRank h ht hr
  have kk := kk A' v M' hh
  rw [st2_A] at kk ⊢
  refine z_callV (D := D) (As := [.int (nI t), .int r]) hO hRm hL (by omega) (by decide) (c := 6) (by decide) hX rfl rfl (e_X6_setRank (d := D - 1) htr hX hA (by omega)) zl_L_101 zi_X6_setRank zs_X6_setRank zc_X6_setRank zn_X6 zd_X6_setRank hcat hdg hb1 hb2 (fun E z ly9 τ9 σ9 g => ?_) (fun v9 z ly9 τ9 σ9 g => ?_)
  · obtain ⟨g1, rfl, rfl, g4⟩ := g
    rw [hR] at g4
    exact absurd g4.1 (by simp)
  · obtain ⟨g1, rfl, rfl, g4⟩ := g
    rw [hR] at g4
    obtain ⟨g4, rfl⟩ := g4
    cases g4
    refine zV_S (S' := fun z => N ≤ z) (fun y hy => by subst hy; exact g1) ?_
    exact kk
theorem a_addTask (H : zLw G X l D cc nL ly x) (h : zJT n K Bd A M) {a b c : Int32} (hn16 : n < 16) (ha : mF_is a 0 7 = true) (hb : mF_is b 0 3 = true) (hc : mF_is c 1 5 = true) (hb1 : 1 ≤ bc) (hb2 : 6 ≤ bs) (hcat : (st.map fun v => v.category).sum ≤ 8) (hdg : decode cc pc = .ok (.invokevirtual 19, 3)) (kk : ∀ A' v M', (zJT (n + 1) K Bd A' M' ∧ (∀ t, M' 41 t = M 41 t) ∧ ∀ t, M' 6 t = M 6 t) → zV G X nL (bc - 1) (bs - 6) (fun z => N ≤ z) ly τ (st2 σ x A' B) (pc + 3) ls (.int v :: st)) : zV G X nL bc bs (fun z => N ≤ z) ly τ (st2 σ x A B) pc ls (.int c :: .int b :: .int a :: .ref x :: st) := by
  obtain ⟨⟨hO, hRm, hL, hD, htr⟩, ⟨hX, hA, hB⟩, -⟩ := H
  have hn := zJT_n h
  obtain ⟨A', v, M', hR, hh⟩ := t_addTask h hn16 ha hb hc
  have kk := kk A' v M' hh
  rw [st2_A] at kk ⊢
  refine z_callV (D := D) (As := [.int a, .int b, .int c]) hO hRm hL (by omega) (by decide) (c := 6) (by decide) hX rfl rfl (e_X6_addTask (d := D - 1) htr hX hA (by omega)) zl_L_19 zi_X6_addTask zs_X6_addTask zc_X6_addTask zn_X6 zd_X6_addTask hcat hdg hb1 hb2 (fun E z ly9 τ9 σ9 g => ?_) (fun v9 z ly9 τ9 σ9 g => ?_)
  · obtain ⟨g1, rfl, rfl, g4⟩ := g
    rw [hR] at g4
    exact absurd g4.1 (by simp)
  · obtain ⟨g1, rfl, rfl, g4⟩ := g
    rw [hR] at g4
    obtain ⟨g4, rfl⟩ := g4
    cases g4
    refine zV_S (S' := fun z => N ≤ z) (fun y hy => by subst hy; exact g1) ?_
    exact kk
theorem a_addStep (H : zLw G X l D cc nL ly x) (h : zJT n K Bd A M) {t L : Nat} {a b : Int32} (ht : t < n) (h41 : M 41 t = 0) (hl : M 6 t = nI L) (hL16 : L < 16) (hs : cF_isStep a b = true) (hb1 : 1 ≤ bc) (hb2 : 6 ≤ bs) (hcat : (st.map fun v => v.category).sum ≤ 8) (hdg : decode cc pc = .ok (.invokevirtual 25, 3)) (kk : ∀ A' v M', (zJT n K Bd A' M' ∧ (∀ u, M' 41 u = M 41 u) ∧ ∀ u, M' 6 u = if u = t then nI (L + 1) else M 6 u) → zV G X nL (bc - 1) (bs - 6) (fun z => N ≤ z) ly τ (st2 σ x A' B) (pc + 3) ls (.int v :: st)) : zV G X nL bc bs (fun z => N ≤ z) ly τ (st2 σ x A B) pc ls (.int b :: .int a :: .int (nI t) :: .ref x :: st) := by
  obtain ⟨⟨hO, hRm, hL, hD, htr⟩, ⟨hX, hA, hB⟩, -⟩ := H
  have hn := zJT_n h
  obtain ⟨A', v, M', hR, hh⟩ := t_addStep h ht h41 hl hL16 hs
  have kk := kk A' v M' hh
  rw [st2_A] at kk ⊢
  refine z_callV (D := D) (As := [.int (nI t), .int a, .int b]) hO hRm hL (by omega) (by decide) (c := 6) (by decide) hX rfl rfl (e_X6_addStep (d := D - 1) htr hX hA (by omega)) zl_L_25 zi_X6_addStep zs_X6_addStep zc_X6_addStep zn_X6 zd_X6_addStep hcat hdg hb1 hb2 (fun E z ly9 τ9 σ9 g => ?_) (fun v9 z ly9 τ9 σ9 g => ?_)
  · obtain ⟨g1, rfl, rfl, g4⟩ := g
    rw [hR] at g4
    exact absurd g4.1 (by simp)
  · obtain ⟨g1, rfl, rfl, g4⟩ := g
    rw [hR] at g4
    obtain ⟨g4, rfl⟩ := g4
    cases g4
    refine zV_S (S' := fun z => N ≤ z) (fun y hy => by subst hy; exact g1) ?_
    exact kk
theorem a_signal (H : zLw G X l D cc nL ly x) (h : zJT n K Bd A M) {q : Nat} (hB2 : Bd ≤ 2000000000) (hq : q < 6) (hb1 : 1 ≤ bc) (hb2 : 6 ≤ bs) (hcat : (st.map fun v => v.category).sum ≤ 8) (hdg : decode cc pc = .ok (.invokevirtual 93, 3)) (kk : ∀ A' v M', (zJT n K (Bd + 1) A' M' ∧ ((mF_those M 5 (nI q) = 0 ∧ v = (if M 102 q + 1 < 99 then M 102 q + 1 else 99)) ∨ (¬ mF_those M 5 (nI q) = 0 ∧ v = M 102 q))) → zV G X nL (bc - 1) (bs - 6) (fun z => N ≤ z) ly τ (st2 σ x A' B) (pc + 3) ls (.int v :: st)) : zV G X nL bc bs (fun z => N ≤ z) ly τ (st2 σ x A B) pc ls (.int (nI q) :: .ref x :: st) := by
  obtain ⟨⟨hO, hRm, hL, hD, htr⟩, ⟨hX, hA, hB⟩, -⟩ := H
  have hn := zJT_n h
  obtain ⟨A', v, M', hR, hh⟩ := t_signal h hB2 hq
  have kk := kk A' v M' hh
  rw [st2_A] at kk ⊢
  refine z_callV (D := D) (As := [.int (nI q)]) hO hRm hL (by omega) (by decide) (c := 6) (by decide) hX rfl rfl (e_X6_signal (d := D - 1) htr hX hA (by omega)) zl_L_93 zi_X6_signal zs_X6_signal zc_X6_signal zn_X6 zd_X6_signal hcat hdg hb1 hb2 (fun E z ly9 τ9 σ9 g => ?_) (fun v9 z ly9 τ9 σ9 g => ?_)
  · obtain ⟨g1, rfl, rfl, g4⟩ := g
    rw [hR] at g4
    exact absurd g4.1 (by simp)
  · obtain ⟨g1, rfl, rfl, g4⟩ := g
    rw [hR] at g4
    obtain ⟨g4, rfl⟩ := g4
    cases g4
    refine zV_S (S' := fun z => N ≤ z) (fun y hy => by subst hy; exact g1) ?_
    exact kk
theorem a_tick (H : zLw G X l D cc nL ly x) (h : zJT n K Bd A M) {j : Nat} {v : Int32} (hR : cP_tick A (nI j) = .inl (cF_ticks A j, v)) (hb1 : 1 ≤ bc) (hb2 : 6 ≤ bs) (hcat : (st.map fun v => v.category).sum ≤ 8) (hdg : decode cc pc = .ok (.invokevirtual 111, 3)) (kk : zV G X nL (bc - 1) (bs - 6) (fun z => N ≤ z) ly τ (st2 σ x (cF_ticks A j) B) (pc + 3) ls (.int v :: st)) : zV G X nL bc bs (fun z => N ≤ z) ly τ (st2 σ x A B) pc ls (.int (nI j) :: .ref x :: st) := by
  obtain ⟨⟨hO, hRm, hL, hD, htr⟩, ⟨hX, hA, hB⟩, -⟩ := H
  have hn := zJT_n h
  rw [st2_A] at kk ⊢
  refine z_callV (D := D) (As := [.int (nI j)]) hO hRm hL (by omega) (by decide) (c := 6) (by decide) hX rfl rfl (e_X6_tick (d := D - 1) htr hX hA (by omega)) zl_L_111 zi_X6_tick zs_X6_tick zc_X6_tick zn_X6 zd_X6_tick hcat hdg hb1 hb2 (fun E z ly9 τ9 σ9 g => ?_) (fun v9 z ly9 τ9 σ9 g => ?_)
  · obtain ⟨g1, rfl, rfl, g4⟩ := g
    rw [hR] at g4
    exact absurd g4.1 (by simp)
  · obtain ⟨g1, rfl, rfl, g4⟩ := g
    rw [hR] at g4
    obtain ⟨g4, rfl⟩ := g4
    cases g4
    refine zV_S (S' := fun z => N ≤ z) (fun y hy => by subst hy; exact g1) ?_
    exact kk
theorem a_start (H : zLw G X l D cc nL ly x) (h : zJT n K Bd A M) {t : Nat} (hB2 : Bd ≤ 2000000000) (ht : t < n) (hb1 : 1 ≤ bc) (hb2 : 6 ≤ bs) (hcat : (st.map fun v => v.category).sum ≤ 8) (hdg : decode cc pc = .ok (.invokevirtual 68, 3)) (kx : zVX G X nL (bc - 1) (bs - 6) (fun z => N ≤ z) ly τ (st2 σ x A B) pc ls st eIS) (kk : ∀ A' M', (zJT n K (Bd + 1) A' M' ∧ M' 41 t = 1) → zV G X nL (bc - 1) (bs - 6) (fun z => N ≤ z) ly τ (st2 σ x A' B) (pc + 3) ls (.int (M' 45 t) :: st)) : zV G X nL bc bs (fun z => N ≤ z) ly τ (st2 σ x A B) pc ls (.int (nI t) :: .ref x :: st) := by
  obtain ⟨⟨hO, hRm, hL, hD, htr⟩, ⟨hX, hA, hB⟩, -⟩ := H
  have hn := zJT_n h
  rw [st2_A] at kx ⊢
  have hg := t_start h hB2 ht
  refine z_callV (D := D) (As := [.int (nI t)]) hO hRm hL (by omega) (by decide) (c := 6) (by decide) hX rfl rfl (e_X6_start (d := D - 1) htr hX hA (by omega)) zl_L_68 zi_X6_start zs_X6_start zc_X6_start zn_X6 zd_X6_start hcat hdg hb1 hb2 (fun E z ly9 τ9 σ9 g => ?_) (fun v9 z ly9 τ9 σ9 g => ?_)
  · obtain ⟨g1, rfl, rfl, g4⟩ := g
    rcases hg with ⟨A', M', hR, hh⟩ | hR
    · rw [hR] at g4
      exact absurd g4.1 (by simp)
    · rw [hR] at g4
      obtain ⟨g4, rfl⟩ := g4
      cases g4
      exact zVX_S (fun y hy => by subst hy; exact g1) kx
  · obtain ⟨g1, rfl, rfl, g4⟩ := g
    rcases hg with ⟨A', M', hR, hh⟩ | hR
    · have kk := kk A' M' hh
      rw [st2_A] at kk
      rw [hR] at g4
      obtain ⟨g4, rfl⟩ := g4
      cases g4
      exact zV_S (S' := fun z => N ≤ z) (fun y hy => by subst hy; exact g1) kk
    · rw [hR] at g4
      exact absurd g4.1 (by simp)
theorem a_end (H : zLw G X l D cc nL ly x) (h : zJT n K Bd A M) {t : Nat} (hB2 : Bd + 6 ≤ 2000000000) (ht : t < n) (hb1 : 1 ≤ bc) (hb2 : 6 ≤ bs) (hcat : (st.map fun v => v.category).sum ≤ 8) (hdg : decode cc pc = .ok (.invokevirtual 81, 3)) (kx : zVX G X nL (bc - 1) (bs - 6) (fun z => N ≤ z) ly τ (st2 σ x A B) pc ls st eIS) (kk : ∀ A' M', (¬ M 41 t = 6 ∧ zJT n K (Bd + 6) A' M' ∧ M' 41 t = 6 ∧ M' (52 + t) 4 = M 0 1) → zV G X nL (bc - 1) (bs - 6) (fun z => N ≤ z) ly τ (st2 σ x A' B) (pc + 3) ls (.int (M 41 t) :: st)) : zV G X nL bc bs (fun z => N ≤ z) ly τ (st2 σ x A B) pc ls (.int (nI t) :: .ref x :: st) := by
  obtain ⟨⟨hO, hRm, hL, hD, htr⟩, ⟨hX, hA, hB⟩, -⟩ := H
  have hn := zJT_n h
  rw [st2_A] at kx ⊢
  have hg := t_end h hB2 ht
  refine z_callV (D := D) (As := [.int (nI t)]) hO hRm hL (by omega) (by decide) (c := 6) (by decide) hX rfl rfl (e_X6_end (d := D - 1) htr hX hA (by omega)) zl_L_81 zi_X6_end zs_X6_end zc_X6_end zn_X6 zd_X6_end hcat hdg hb1 hb2 (fun E z ly9 τ9 σ9 g => ?_) (fun v9 z ly9 τ9 σ9 g => ?_)
  · obtain ⟨g1, rfl, rfl, g4⟩ := g
    rcases hg with ⟨A', M', hR, hh⟩ | hR
    · rw [hR] at g4
      exact absurd g4.1 (by simp)
    · rw [hR] at g4
      obtain ⟨g4, rfl⟩ := g4
      cases g4
      exact zVX_S (fun y hy => by subst hy; exact g1) kx
  · obtain ⟨g1, rfl, rfl, g4⟩ := g
    rcases hg with ⟨A', M', hR, hh⟩ | hR
    · have kk := kk A' M' hh
      rw [st2_A] at kk
      rw [hR] at g4
      obtain ⟨g4, rfl⟩ := g4
      cases g4
      exact zV_S (S' := fun z => N ≤ z) (fun y hy => by subst hy; exact g1) kk
    · rw [hR] at g4
      exact absurd g4.1 (by simp)
end ZAC
