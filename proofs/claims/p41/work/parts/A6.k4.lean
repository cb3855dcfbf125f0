/-! The law: its tasks and their programs -/
theorem a_belowV {G : zGm} {X : zCx} {l : Launch} {D : Nat} {cc : ByteArray} {nL bc bs N x pc : Nat} {ly : zLy} {τ : zTu} {σ : zSg} {ls : List (Option Value)} {st : List Value} {v : Int32} {k : Nat} (H : zLw G X l D cc nL ly x) (hk : 1 ≤ k) (hk2 : k ≤ 100) (hcat : (st.map fun v => v.category).sum ≤ 8) (hdg : decode cc pc = .ok (.invokestatic 15, 3)) (kk : zV G X nL bc bs (fun z => N ≤ z) ly τ σ (pc + 3) ls (.int (nI (bel v k)) :: st)) : zV G X nL bc bs (fun z => N ≤ z) ly τ σ pc ls (.int (nI k) :: .int v :: st) := by
  obtain ⟨⟨hO, hRm, hL, hD, htr⟩, -, -⟩ := H
  exact zr_S2 (D := D) hO hRm hL (by omega) (by decide) rfl (e_L_below (d := D - 1) htr hk hk2) zl_L_15 zt_L_below zc_L_below zn_L zd_L_below hcat hdg (Nat.zero_le _) (Nat.zero_le _) kk
theorem step_lo : ∀ c, c < 2 → ∀ r, r < 4 → cF_isStep (nI c) (nI (1 + r)) = true := by decide
theorem step_hi : ∀ c, c < 7 → 2 ≤ c → ∀ r, r < 3 → cF_isStep (nI c) (nI r) = true := by decide
theorem five : ∀ t, t < 6 → (5 : Int32) * nI t = nI (5 * t) := by decide
theorem mod14 {m : Nat} (h : m < 90) : nI m - nI m / 14 * 14 = nI (m % 14) := by
  have := modk (t := nI m) (by rw [nI_rng (by omega)]; omega) (k := 14) (by decide) (by decide)
  rw [zix (by omega)] at this
  exact this
set_option maxRecDepth 100000 in
set_option maxHeartbeats 1000000 in
theorem e_L_made {l : Launch} {G : zGm} {d N x K Bd : Nat} {ly : zLy} {τ : zTu} {σ A B M : zSg} (htr : l.stackTraces = false) (hX : ly x = (6 + 5, 2, zcr6 (x + 1) (x + 96)) ∧ zC ly (x + 1) ∧ zC ly (x + 96)) (hLL : G.2.2.2.2.1 ≤ 260) (h : zJT 0 K Bd A M) (h41 : ∀ u, M 41 u = 0) (h6 : ∀ u, M 6 u = 0) (hd : 11 ≤ d) : zEv l G d 60 360 (yL_made, cL_made, 9, some .int) [.ref x, .ref G.2.2.2.1, .int 0] (fun z => N ≤ z) ly τ (st2 σ x A B) (zPj N x ly τ σ (fun w A' B' => B' = B ∧ ∃ n M', 2 ≤ n ∧ n ≤ 6 ∧ w = some (.int (nI n)) ∧ zJT n K Bd A' M')) := by
  refine zEv_of (ls := [some (.ref x), some (.ref G.2.2.2.1), some (.int 0), none, none, none, none, none, none]) htr (by decide) (Nat.le_of_ble_eq_true rfl) rfl (fun X hO hE hN hRm hL hNm => ?_)
  have hO : zOk G X RL cL_made 9 := hO
  have H : zLw G X l d cL_made 9 ly x := ⟨⟨hO, hRm, hL, hd, htr⟩, hX, hLL⟩
  have inner : ∀ (m t : Nat) (v : Int32), m ≤ 6 → t < m → (∀ (A M : zSg), zJT (t + 1) K Bd A M → (∀ u, M 41 u = 0) → (∀ u, t < u → M 6 u = 0) → zV G X 9 (8 * (6 - (t + 1))) (48 * (6 - (t + 1))) (fun z => N ≤ z) ly τ (st2 σ x A B) 15 [some (.ref x), some (.ref G.2.2.2.1), some (.int 0), some (.int (nI m)), some (.int (nI (t + 1))), none, none, none, none] []) → ∀ i k (A M : zSg) (l7 l8 : Option Value), k + i = 5 → zJT (t + 1) K Bd A M → (∀ u, M 41 u = 0) → M 6 t = nI k → (∀ u, t < u → M 6 u = 0) → zV G X 9 (i + 1 + 8 * (6 - (t + 1))) (6 * (i + 1) + 48 * (6 - (t + 1))) (fun z => N ≤ z) ly τ (st2 σ x A B) 66 [some (.ref x), some (.ref G.2.2.2.1), some (.int 0), some (.int (nI m)), some (.int (nI t)), some (.int v), some (.int (nI k)), l7, l8] [] := by
    intro m t v hm ht next i
    induction i with
    | zero =>
      intro k A M l7 l8 hk h1 g41 gk g6
      refine zr_iload_6 hO dL_made_66 ?_
      refine zr_iload_5 hO dL_made_68 ?_
      refine zr_bipush (v := 7) hO dL_made_70 (by decide) ?_
      refine zr_ishr hO dL_made_72 ?_
      refine zr_bipush (v := 6) hO dL_made_73 (by decide) ?_
      refine zV_pc (pc' := 75) rfl ?_
      refine a_below (k := 6) H (by decide) (by decide) (Nat.le_of_ble_eq_true rfl) dL_made_75 (fun r hr => ?_)
      refine zV_pc (pc' := 78) rfl ?_
      refine zr_icmp_ge (tgt := 177) hO dL_made_78 (by decide) (fun c => ?_) (fun c => ?_)
      · clear c
        refine zV_pc (pc' := 177) rfl ?_
        refine zr_aload_0 hO dL_made_177 ?_
        refine zr_iload_4 hO dL_made_178 ?_
        refine zr_iconst (v := 0) hO dL_made_180 (by decide) ?_
        refine zr_iconst (v := 1) hO dL_made_181 (by decide) ?_
        refine zr_iload_5 hO dL_made_182 ?_
        refine zV_pc (pc' := 184) rfl ?_
        refine zr_bipush (v := 9) hO dL_made_184 (by decide) ?_
        refine zr_ishr hO dL_made_186 ?_
        refine zr_iconst (v := 4) hO dL_made_187 (by decide) ?_
        refine zV_pc (pc' := 188) rfl ?_
        refine a_below (k := 4) H (by decide) (by decide) (Nat.le_of_ble_eq_true rfl) dL_made_188 (fun r9 hr9 => ?_)
        refine zV_pc (pc' := 191) rfl ?_
        refine zr_iadd hO dL_made_191 ?_
        refine zV_pc (pc' := 192) rfl ?_
        rw [show (1 : Int32) = nI 1 from rfl, nI_pl]
        refine a_addStep H h1 (t := t) (L := k) (a := nI 0) (by omega) (g41 t) gk (by omega) (step_lo 0 (by decide) r9 hr9) (by omega) (by omega) (Nat.le_of_ble_eq_true rfl) dL_made_192 (fun A2 v2 M2 hh => ?_)
        obtain ⟨h2, e41, e6⟩ := hh
        refine zV_pc (pc' := 195) rfl ?_
        refine zr_pop hO dL_made_195 rfl ?_
        refine zr_iinc_4 (v := 1) hO dL_made_196 (by decide) (by decide) rfl ?_
        refine zr_goto (tgt := 15) hO dL_made_199 (by decide) ?_
        refine zV_d5 ?_
        refine zV_d6 ?_
        refine zV_d7 ?_
        refine zV_d8 ?_
        rw [nI_1]
        refine zV_b (by omega) (by omega) (next A2 M2 h2 (fun u => by rw [e41]; exact g41 u) (fun u hu => by rw [e6, if_neg (by omega)]; exact g6 u hu))
      · rw [i_lt, nI_rng (by omega), nI_rng (by omega)] at c
        omega
    | succ i ih =>
      intro k A M l7 l8 hk h1 g41 gk g6
      refine zr_iload_6 hO dL_made_66 ?_
      refine zr_iload_5 hO dL_made_68 ?_
      refine zr_bipush (v := 7) hO dL_made_70 (by decide) ?_
      refine zr_ishr hO dL_made_72 ?_
      refine zr_bipush (v := 6) hO dL_made_73 (by decide) ?_
      refine zV_pc (pc' := 75) rfl ?_
      refine a_below (k := 6) H (by decide) (by decide) (Nat.le_of_ble_eq_true rfl) dL_made_75 (fun r hr => ?_)
      refine zV_pc (pc' := 78) rfl ?_
      refine zr_icmp_ge (tgt := 177) hO dL_made_78 (by decide) (fun c => ?_) (fun c => ?_)
      · clear c
        refine zV_pc (pc' := 177) rfl ?_
        refine zr_aload_0 hO dL_made_177 ?_
        refine zr_iload_4 hO dL_made_178 ?_
        refine zr_iconst (v := 0) hO dL_made_180 (by decide) ?_
        refine zr_iconst (v := 1) hO dL_made_181 (by decide) ?_
        refine zr_iload_5 hO dL_made_182 ?_
        refine zV_pc (pc' := 184) rfl ?_
        refine zr_bipush (v := 9) hO dL_made_184 (by decide) ?_
        refine zr_ishr hO dL_made_186 ?_
        refine zr_iconst (v := 4) hO dL_made_187 (by decide) ?_
        refine zV_pc (pc' := 188) rfl ?_
        refine a_below (k := 4) H (by decide) (by decide) (Nat.le_of_ble_eq_true rfl) dL_made_188 (fun r9 hr9 => ?_)
        refine zV_pc (pc' := 191) rfl ?_
        refine zr_iadd hO dL_made_191 ?_
        refine zV_pc (pc' := 192) rfl ?_
        rw [show (1 : Int32) = nI 1 from rfl, nI_pl]
        refine a_addStep H h1 (t := t) (L := k) (a := nI 0) (by omega) (g41 t) gk (by omega) (step_lo 0 (by decide) r9 hr9) (by omega) (by omega) (Nat.le_of_ble_eq_true rfl) dL_made_192 (fun A2 v2 M2 hh => ?_)
        obtain ⟨h2, e41, e6⟩ := hh
        refine zV_pc (pc' := 195) rfl ?_
        refine zr_pop hO dL_made_195 rfl ?_
        refine zr_iinc_4 (v := 1) hO dL_made_196 (by decide) (by decide) rfl ?_
        refine zr_goto (tgt := 15) hO dL_made_199 (by decide) ?_
        refine zV_d5 ?_
        refine zV_d6 ?_
        refine zV_d7 ?_
        refine zV_d8 ?_
        rw [nI_1]
        refine zV_b (by omega) (by omega) (next A2 M2 h2 (fun u => by rw [e41]; exact g41 u) (fun u hu => by rw [e6, if_neg (by omega)]; exact g6 u hu))
      · clear c
        refine zV_pc (pc' := 81) rfl ?_
        refine zr_aload_1 hO dL_made_81 ?_
        refine zr_bipush (v := 8) hO dL_made_82 (by decide) ?_
        refine zr_iconst (v := 5) hO dL_made_84 (by decide) ?_
        refine zr_iload_4 hO dL_made_85 ?_
        refine zV_pc (pc' := 87) rfl ?_
        refine zr_imul hO dL_made_87 ?_
        rw [five t (by omega)]
        refine zr_iload_6 hO dL_made_88 ?_
        refine zr_iadd hO dL_made_90 ?_
        refine zV_pc (pc' := 91) rfl ?_
        rw [nI_pl]
        refine zr_bipush (v := 14) hO dL_made_91 (by decide) ?_
        refine zV_pc (pc' := 93) rfl ?_
        refine zr_irem hO dL_made_93 (by decide) ?_
        rw [mod14 (by omega)]
        refine zr_iadd hO dL_made_94 ?_
        refine zV_pc (pc' := 95) rfl ?_
        rw [show (8 : Int32) = nI 8 from rfl, nI_pl]
        refine a_cell (k := 8 + (5 * t + k) % 14) H (by omega) (Nat.le_of_ble_eq_true rfl) dL_made_95 (fun q => ?_)
        refine zV_pc (pc' := 98) rfl ?_
        refine zr_iload_4 hO dL_made_98 ?_
        refine zr_iload_6 hO dL_made_100 ?_
        refine zr_iadd hO dL_made_102 ?_
        refine zr_iconst (v := 4) hO dL_made_103 (by decide) ?_
        refine zV_pc (pc' := 104) rfl ?_
        refine zr_irem hO dL_made_104 (by decide) ?_
        refine zr_iconst (v := 3) hO dL_made_105 (by decide) ?_
        refine zr_imul hO dL_made_106 ?_
        refine zr_ishr hO dL_made_107 ?_
        refine zV_pc (pc' := 108) rfl ?_
        generalize q >>> _ = y
        refine zr_istore_7 hO dL_made_108 (by decide) rfl ?_
        refine zV_pc (pc' := 110) rfl ?_
        have tail : ∀ c, c ≤ 6 → zV G X 9 (i + 1 + 1 + 8 * (6 - (t + 1))) (6 * (i + 1 + 1) + 48 * (6 - (t + 1))) (fun z => N ≤ z) ly τ (st2 σ x A B) 133 [some (.ref x), some (.ref G.2.2.2.1), some (.int 0), some (.int (nI m)), some (.int (nI t)), some (.int v), some (.int (nI k)), some (.int y), l8] [.int (nI c)] := by
          intro c hc
          refine zr_istore_8 hO dL_made_133 (by decide) rfl ?_
          refine zr_aload_0 hO dL_made_135 ?_
          refine zr_iload_4 hO dL_made_136 ?_
          refine zr_iload_8 hO dL_made_138 ?_
          refine zr_iload_8 hO dL_made_140 ?_
          refine zV_pc (pc' := 142) rfl ?_
          refine zr_iconst (v := 2) hO dL_made_142 (by decide) ?_
          refine zV_pc (pc' := 143) rfl ?_
          refine zr_icmp_ge (tgt := 159) hO dL_made_143 (by decide) (fun c => ?_) (fun c => ?_)
          · rename_i c8
            have c7 : ¬ nI c8 < 2 := c
            rw [i_lt, nI_rng (by omega), show (2 : Int32).toInt = 2 from rfl] at c7
            refine zV_pc (pc' := 159) rfl ?_
            refine zr_iload_7 hO dL_made_159 ?_
            refine zr_iconst (v := 4) hO dL_made_161 (by decide) ?_
            refine zr_ishr hO dL_made_162 ?_
            refine zr_iconst (v := 3) hO dL_made_163 (by decide) ?_
            refine zV_pc (pc' := 164) rfl ?_
            refine a_below (k := 3) H (by decide) (by decide) (Nat.le_of_ble_eq_true rfl) dL_made_164 (fun r9 hr9 => ?_)
            refine zV_pc (pc' := 167) rfl ?_
            refine a_addStep H h1 (t := t) (L := k) (by omega) (g41 t) gk (by omega) (step_hi c8 (by omega) (by omega) r9 hr9) (by omega) (by omega) (Nat.le_of_ble_eq_true rfl) dL_made_167 (fun A2 v2 M2 hh => ?_)
            obtain ⟨h2, e41, e6⟩ := hh
            refine zV_pc (pc' := 170) rfl ?_
            refine zr_pop hO dL_made_170 rfl ?_
            refine zr_iinc_6 (v := 1) hO dL_made_171 (by decide) (by decide) rfl ?_
            refine zr_goto (tgt := 66) hO dL_made_174 (by decide) ?_
            rw [nI_1]
            refine zV_b (by omega) (by omega) (ih (k + 1) A2 M2 _ _ (by omega) h2 (fun u => by rw [e41]; exact g41 u) (by rw [e6, if_pos rfl]) (fun u hu => by rw [e6, if_neg (by omega)]; exact g6 u hu))
          · rename_i c8
            have c7 : nI c8 < 2 := c
            rw [i_lt, nI_rng (by omega), show (2 : Int32).toInt = 2 from rfl] at c7
            refine zV_pc (pc' := 146) rfl ?_
            refine zr_iconst (v := 1) hO dL_made_146 (by decide) ?_
            refine zr_iload_7 hO dL_made_147 ?_
            refine zr_iconst (v := 4) hO dL_made_149 (by decide) ?_
            refine zr_ishr hO dL_made_150 ?_
            refine zr_iconst (v := 4) hO dL_made_151 (by decide) ?_
            refine zV_pc (pc' := 152) rfl ?_
            refine a_below (k := 4) H (by decide) (by decide) (Nat.le_of_ble_eq_true rfl) dL_made_152 (fun r9 hr9 => ?_)
            refine zV_pc (pc' := 155) rfl ?_
            refine zr_iadd hO dL_made_155 ?_
            refine zr_goto (tgt := 167) hO dL_made_156 (by decide) ?_
            rw [show (1 : Int32) = nI 1 from rfl, nI_pl]
            refine a_addStep H h1 (t := t) (L := k) (by omega) (g41 t) gk (by omega) (step_lo c8 (by omega) r9 hr9) (by omega) (by omega) (Nat.le_of_ble_eq_true rfl) dL_made_167 (fun A2 v2 M2 hh => ?_)
            obtain ⟨h2, e41, e6⟩ := hh
            refine zV_pc (pc' := 170) rfl ?_
            refine zr_pop hO dL_made_170 rfl ?_
            refine zr_iinc_6 (v := 1) hO dL_made_171 (by decide) (by decide) rfl ?_
            refine zr_goto (tgt := 66) hO dL_made_174 (by decide) ?_
            rw [nI_1]
            refine zV_b (by omega) (by omega) (ih (k + 1) A2 M2 _ _ (by omega) h2 (fun u => by rw [e41]; exact g41 u) (by rw [e6, if_pos rfl]) (fun u hu => by rw [e6, if_neg (by omega)]; exact g6 u hu))
        refine zV_pc (pc' := 110) rfl ?_
        refine zr_iload_7 hO dL_made_110 ?_
        refine zr_bipush (v := 9) hO dL_made_112 (by decide) ?_
        refine zV_pc (pc' := 114) rfl ?_
        refine a_belowV (k := 9) H (by decide) (by decide) (Nat.le_of_ble_eq_true rfl) dL_made_114 ?_
        refine zV_pc (pc' := 117) rfl ?_
        refine zr_bipush (v := 6) hO dL_made_117 (by decide) ?_
        refine zV_pc (pc' := 119) rfl ?_
        refine zr_icmp_le (tgt := 126) hO dL_made_119 (by decide) (fun c => ?_) (fun c => ?_)
        · rw [i_lt, show (6 : Int32).toInt = 6 from rfl, nI_rng (by have := bel_lt y (k := 9) (by decide); omega)] at c
          refine zV_pc (pc' := 126) rfl ?_
          refine zr_iload_7 hO dL_made_126 ?_
          refine zr_bipush (v := 9) hO dL_made_128 (by decide) ?_
          refine zV_pc (pc' := 130) rfl ?_
          refine a_belowV (k := 9) H (by decide) (by decide) (Nat.le_of_ble_eq_true rfl) dL_made_130 ?_
          refine zV_pc (pc' := 133) rfl ?_
          exact tail _ (by omega)
        · clear c
          refine zV_pc (pc' := 122) rfl ?_
          refine zr_iconst (v := 0) hO dL_made_122 (by decide) ?_
          refine zr_goto (tgt := 133) hO dL_made_123 (by decide) ?_
          exact tail 0 (by omega)
  have outer : ∀ j t m (A M : zSg), t + j = m → 2 ≤ m → m ≤ 6 → zJT t K Bd A M → (∀ u, M 41 u = 0) → (∀ u, t ≤ u → M 6 u = 0) → zV G X 9 (8 * (6 - t)) (48 * (6 - t)) (fun z => N ≤ z) ly τ (st2 σ x A B) 15 [some (.ref x), some (.ref G.2.2.2.1), some (.int 0), some (.int (nI m)), some (.int (nI t)), none, none, none, none] [] := by
    intro j
    induction j with
    | zero =>
      intro t m A M ht hm2 hm h1 g41 g6
      refine zr_iload_4 hO dL_made_15 ?_
      refine zr_iload_3 hO dL_made_17 ?_
      refine zV_pc (pc' := 18) rfl ?_
      refine zr_icmp_ge (tgt := 202) hO dL_made_18 (by decide) (fun c => ?_) (fun c => ?_)
      · clear c
        refine zV_pc (pc' := 202) rfl ?_
        refine zr_iload_3 hO dL_made_202 ?_
        refine zV_pc (pc' := 203) rfl ?_
        exact zr_ireturn hO hE dL_made_203 (fun z hz => ⟨_, A, B, rfl, ⟨rfl, m, M, hm2, hm, rfl, by rw [show m = t by omega]; exact h1⟩, rfl, hz, rfl, rfl⟩)
      · rw [i_lt, nI_rng (by omega), nI_rng (by omega)] at c
        omega
    | succ j ih =>
      intro t m A M ht hm2 hm h1 g41 g6
      refine zr_iload_4 hO dL_made_15 ?_
      refine zr_iload_3 hO dL_made_17 ?_
      refine zV_pc (pc' := 18) rfl ?_
      refine zr_icmp_ge (tgt := 202) hO dL_made_18 (by decide) (fun c => ?_) (fun c => ?_)
      · rw [i_lt, nI_rng (by omega), nI_rng (by omega)] at c
        omega
      · clear c
        refine zV_pc (pc' := 21) rfl ?_
        refine zr_aload_1 hO dL_made_21 ?_
        refine zr_iconst (v := 1) hO dL_made_22 (by decide) ?_
        refine zr_iload_4 hO dL_made_23 ?_
        refine zr_iadd hO dL_made_25 ?_
        refine zV_pc (pc' := 26) rfl ?_
        rw [show (1 : Int32) = nI 1 from rfl, nI_pl]
        refine a_cell (k := 1 + t) H (by omega) (Nat.le_of_ble_eq_true rfl) dL_made_26 (fun v => ?_)
        refine zV_pc (pc' := 29) rfl ?_
        refine zr_istore_5 hO dL_made_29 (by decide) rfl ?_
        refine zr_aload_0 hO dL_made_31 ?_
        refine zr_iload_5 hO dL_made_32 ?_
        refine zr_bipush (v := 6) hO dL_made_34 (by decide) ?_
        refine zV_pc (pc' := 36) rfl ?_
        refine a_below (k := 6) H (by decide) (by decide) (Nat.le_of_ble_eq_true rfl) dL_made_36 (fun r1 hr1 => ?_)
        refine zV_pc (pc' := 39) rfl ?_
        refine zr_iload_2 hO dL_made_39 ?_
        refine zr_iadd hO dL_made_40 ?_
        refine zV_pc (pc' := 41) rfl ?_
        rw [Int32.add_zero]
        refine zr_iload_5 hO dL_made_41 ?_
        refine zr_iconst (v := 3) hO dL_made_43 (by decide) ?_
        refine zr_ishr hO dL_made_44 ?_
        refine zr_iconst (v := 3) hO dL_made_45 (by decide) ?_
        refine zV_pc (pc' := 46) rfl ?_
        refine a_below (k := 3) H (by decide) (by decide) (Nat.le_of_ble_eq_true rfl) dL_made_46 (fun r2 hr2 => ?_)
        refine zV_pc (pc' := 49) rfl ?_
        refine zr_iconst (v := 1) hO dL_made_49 (by decide) ?_
        refine zr_iload_5 hO dL_made_50 ?_
        refine zr_iconst (v := 5) hO dL_made_52 (by decide) ?_
        refine zr_ishr hO dL_made_53 ?_
        refine zr_iconst (v := 3) hO dL_made_54 (by decide) ?_
        refine zV_pc (pc' := 55) rfl ?_
        refine a_below (k := 3) H (by decide) (by decide) (Nat.le_of_ble_eq_true rfl) dL_made_55 (fun r3 hr3 => ?_)
        refine zV_pc (pc' := 58) rfl ?_
        refine zr_iadd hO dL_made_58 ?_
        refine zV_pc (pc' := 59) rfl ?_
        rw [show (1 : Int32) = nI 1 from rfl, nI_pl]
        refine a_addTask H h1 (by omega) (is_nI (a := 0) (b := 7) (by omega) (by omega) (by decide) rfl rfl) (is_nI (a := 0) (b := 3) (by omega) (by omega) (by decide) rfl rfl) (is_nI (a := 1) (b := 5) (by omega) (by omega) (by decide) rfl rfl) (by omega) (by omega) (Nat.le_of_ble_eq_true rfl) dL_made_59 (fun A2 v2 M2 hh => ?_)
        obtain ⟨h2, e41, e6⟩ := hh
        refine zV_pc (pc' := 62) rfl ?_
        refine zr_pop hO dL_made_62 rfl ?_
        refine zr_iconst (v := 0) hO dL_made_63 (by decide) ?_
        refine zr_istore_6 hO dL_made_64 (by decide) rfl ?_
        refine zV_pc (pc' := 66) rfl ?_
        refine zV_b (by omega) (by omega) (inner m t v hm (by omega) (fun A3 M3 h3 k41 k6 => ih (t + 1) m A3 M3 (by omega) hm2 hm h3 k41 (fun u hu => k6 u (by omega))) 5 0 A2 M2 _ _ (by omega) h2 (fun u => by rw [e41]; exact g41 u) (by rw [e6]; exact g6 t (Nat.le_refl t)) (fun u hu => by rw [e6]; exact g6 u (by omega)))
  refine zr_iconst (v := 2) hO dL_made_0 (by decide) ?_
  refine zr_aload_1 hO dL_made_1 ?_
  refine zr_iconst (v := 0) hO dL_made_2 (by decide) ?_
  refine zV_pc (pc' := 3) rfl ?_
  refine a_cell (k := 0) H (by omega) (Nat.le_of_ble_eq_true rfl) dL_made_3 (fun v0 => ?_)
  refine zV_pc (pc' := 6) rfl ?_
  refine zr_iconst (v := 5) hO dL_made_6 (by decide) ?_
  refine zV_pc (pc' := 7) rfl ?_
  refine a_below (k := 5) H (by decide) (by decide) (Nat.le_of_ble_eq_true rfl) dL_made_7 (fun r0 hr0 => ?_)
  refine zV_pc (pc' := 10) rfl ?_
  refine zr_iadd hO dL_made_10 ?_
  refine zV_pc (pc' := 11) rfl ?_
  rw [show (2 : Int32) = nI 2 from rfl, nI_pl]
  refine zr_istore_3 hO dL_made_11 (by decide) rfl ?_
  refine zr_iconst (v := 0) hO dL_made_12 (by decide) ?_
  refine zr_istore_4 hO dL_made_13 (by decide) rfl ?_
  refine zV_pc (pc' := 15) rfl ?_
  exact zV_b (by omega) (by omega) (outer (2 + r0) 0 (2 + r0) A M (by omega) (by omega) (by omega) h h41 (fun u _ => h6 u))
