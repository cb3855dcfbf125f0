/-! The law: its places, looked at -/
set_option maxRecDepth 100000 in
theorem pl_96 {l : Launch} {G : zGm} {X : zCx} {D bc bs N x n K Bd q : Nat} {ly : zLy} {τ : zTu} {σ A B M : zSg} (H : zLw G X l D cL_arePlacesRight 4 ly x) (h : zJT n K Bd A M) (hq : q < 6) (next : ∀ A', zJT n K Bd A' M → zV G X 4 bc bs (fun z => N ≤ z) ly τ (st2 σ x A' B) 2 [some (.ref x), some (.int (nI (q + 1))), none, none, none, none, none, none, none] []) : ∀ j t (A : zSg), zJT n K Bd A M → t + j = n → zV G X 4 bc bs (fun z => N ≤ z) ly τ (st2 σ x A B) 96 [some (.ref x), some (.int (nI q)), some (.int (M 101 q)), some (.int (nI t)), none, none, none, none, none] [] := by
  have hO := H.1.1
  have hn := zJT_n h
  intro j
  induction j with
  | zero =>
    intro t A h ht
    refine zr_iload_3 hO dL_arePlacesRight_96 ?_
    refine zr_aload_0 hO dL_arePlacesRight_97 ?_
    refine zV_pc (pc' := 98) rfl ?_
    refine a_tasks H h (Nat.le_of_ble_eq_true rfl) dL_arePlacesRight_98 ?_
    refine zV_pc (pc' := 101) rfl ?_
    refine zr_icmp_ge (tgt := 137) hO dL_arePlacesRight_101 (by decide) (fun c => ?_) (fun c => ?_)
    · clear c
      refine zV_pc (pc' := 137) rfl ?_
      refine zr_iinc_1 (v := 1) hO dL_arePlacesRight_137 (by decide) (by decide) rfl ?_
      refine zr_goto (tgt := 2) hO dL_arePlacesRight_140 (by decide) ?_
      rw [nI_1]
      refine zV_d2 (zV_d3 ?_)
      exact next A h
    · rw [i_lt, nI_rng (by omega), nI_rng (by omega)] at c
      omega
  | succ j ih =>
    intro t A h ht
    refine zr_iload_3 hO dL_arePlacesRight_96 ?_
    refine zr_aload_0 hO dL_arePlacesRight_97 ?_
    refine zV_pc (pc' := 98) rfl ?_
    refine a_tasks H h (Nat.le_of_ble_eq_true rfl) dL_arePlacesRight_98 ?_
    refine zV_pc (pc' := 101) rfl ?_
    refine zr_icmp_ge (tgt := 137) hO dL_arePlacesRight_101 (by decide) (fun c => ?_) (fun c => ?_)
    · rw [i_lt, nI_rng (by omega), nI_rng (by omega)] at c
      omega
    · clear c
      have c131 : ∀ A', zJT n K Bd A' M → zV G X 4 bc bs (fun z => N ≤ z) ly τ (st2 σ x A' B) 131 [some (.ref x), some (.int (nI q)), some (.int (M 101 q)), some (.int (nI t)), none, none, none, none, none] [] := by
        intro A' h'
        refine zr_iinc_3 (v := 1) hO dL_arePlacesRight_131 (by decide) (by decide) rfl ?_
        refine zr_goto (tgt := 96) hO dL_arePlacesRight_134 (by decide) ?_
        rw [nI_1]
        exact ih (t + 1) A' h' (by omega)
      refine zV_pc (pc' := 104) rfl ?_
      refine zr_aload_0 hO dL_arePlacesRight_104 ?_
      refine zr_iload_1 hO dL_arePlacesRight_105 ?_
      refine zV_pc (pc' := 106) rfl ?_
      refine a_blocked H h (q := q) hq (Nat.le_of_ble_eq_true rfl) dL_arePlacesRight_106 ?_
      refine zV_pc (pc' := 109) rfl ?_
      refine zr_iload_3 hO dL_arePlacesRight_109 ?_
      refine zr_ishr hO dL_arePlacesRight_110 ?_
      refine zr_iconst (v := 1) hO dL_arePlacesRight_111 (by decide) ?_
      refine zr_iand hO dL_arePlacesRight_112 ?_
      refine zV_pc (pc' := 113) rfl ?_
      rw [k_wait h 4 (show t < n by omega)]
      by_cases g : M 41 t = 4 ∧ M 49 t = nI q
      · rw [if_pos (decide_eq_true g)]
        refine zr_if_eq (tgt := 131) hO dL_arePlacesRight_113 (by decide) (fun c => ?_) (fun c => ?_)
        · exact absurd c (by decide)
        clear c
        refine zV_pc (pc' := 116) rfl ?_
        obtain ⟨u, hu, eu⟩ : ∃ u, u < n ∧ M 101 q = nI u := by
          rcases j_hold h hq with e | ⟨u, hu, e, _⟩
          · exact absurd e (k_held h hq (by omega) g.1 g.2)
          · exact ⟨u, hu, e⟩
        refine zr_aload_0 hO dL_arePlacesRight_116 ?_
        refine zr_iload_2 hO dL_arePlacesRight_117 ?_
        refine zV_pc (pc' := 118) rfl ?_
        rw [eu]
        refine a_lentKey H h (t := u) hu (Nat.le_of_ble_eq_true rfl) dL_arePlacesRight_118 (fun A1 h1 => ?_)
        refine zV_pc (pc' := 121) rfl ?_
        refine zr_aload_0 hO dL_arePlacesRight_121 ?_
        refine zr_iload_3 hO dL_arePlacesRight_122 ?_
        refine zV_pc (pc' := 123) rfl ?_
        refine a_lentKey H h1 (t := t) (by omega) (Nat.le_of_ble_eq_true rfl) dL_arePlacesRight_123 (fun A2 h2 => ?_)
        refine zV_pc (pc' := 126) rfl ?_
        rw [← eu]
        refine zr_icmp_le (tgt := 131) hO dL_arePlacesRight_126 (by decide) (fun c => ?_) (fun c => ?_)
        · exact c131 A2 h2
        · rw [eu] at c
          exact absurd c (k_lent2 h (by omega) hu hq eu g.1 g.2)
      · rw [if_neg (fun e => g (of_decide_eq_true e))]
        refine zr_if_eq (tgt := 131) hO dL_arePlacesRight_113 (by decide) (fun c => ?_) (fun c => ?_)
        · exact c131 A h
        · exact absurd rfl c
set_option maxRecDepth 100000 in
theorem pl_one {l : Launch} {G : zGm} {X : zCx} {D bc bs N x n K Bd q : Nat} {ly : zLy} {τ : zTu} {σ A B M : zSg} (H : zLw G X l D cL_arePlacesRight 4 ly x) (h : zJT n K Bd A M) (hq : q < 6) (next : ∀ A', zJT n K Bd A' M → zV G X 4 bc bs (fun z => N ≤ z) ly τ (st2 σ x A' B) 2 [some (.ref x), some (.int (nI (q + 1))), none, none, none, none, none, none, none] []) : zV G X 4 bc bs (fun z => N ≤ z) ly τ (st2 σ x A B) 8 [some (.ref x), some (.int (nI q)), none, none, none, none, none, none, none] [] := by
  have hO := H.1.1
  have hn := zJT_n h
  have c82 : zV G X 4 bc bs (fun z => N ≤ z) ly τ (st2 σ x A B) 82 [some (.ref x), some (.int (nI q)), some (.int (M 101 q)), none, none, none, none, none, none] [] := by
    refine zr_aload_0 hO dL_arePlacesRight_82 ?_
    refine zr_iload_1 hO dL_arePlacesRight_83 ?_
    refine zV_pc (pc' := 84) rfl ?_
    refine a_number H h (q := q) hq (Nat.le_of_ble_eq_true rfl) dL_arePlacesRight_84 ?_
    refine zV_pc (pc' := 87) rfl ?_
    refine zr_bipush (v := 99) hO dL_arePlacesRight_87 (by decide) ?_
    refine zV_pc (pc' := 89) rfl ?_
    refine zr_icmp_le (tgt := 94) hO dL_arePlacesRight_89 (by decide) (fun c => ?_) (fun c => ?_)
    · clear c
      refine zV_pc (pc' := 94) rfl ?_
      refine zr_iconst (v := 0) hO dL_arePlacesRight_94 (by decide) ?_
      refine zr_istore_3 hO dL_arePlacesRight_95 (by decide) rfl ?_
      refine zV_pc (pc' := 96) rfl ?_
      exact pl_96 H h hq next n 0 A h (by omega)
    · exact absurd c (k_num h hq).2
  have c66 : zV G X 4 bc bs (fun z => N ≤ z) ly τ (st2 σ x A B) 66 [some (.ref x), some (.int (nI q)), some (.int (M 101 q)), none, none, none, none, none, none] [] := by
    refine zr_aload_0 hO dL_arePlacesRight_66 ?_
    refine zr_iload_1 hO dL_arePlacesRight_67 ?_
    refine zV_pc (pc' := 68) rfl ?_
    refine a_number H h (q := q) hq (Nat.le_of_ble_eq_true rfl) dL_arePlacesRight_68 ?_
    refine zV_pc (pc' := 71) rfl ?_
    refine zr_if_le (tgt := 82) hO dL_arePlacesRight_71 (by decide) (fun c => ?_) (fun c => ?_)
    · exact c82
    · have e := (k_num h hq).1 c
      refine zV_pc (pc' := 74) rfl ?_
      refine zr_aload_0 hO dL_arePlacesRight_74 ?_
      refine zr_iload_1 hO dL_arePlacesRight_75 ?_
      refine zV_pc (pc' := 76) rfl ?_
      refine a_awaiting H h (q := q) hq (Nat.le_of_ble_eq_true rfl) dL_arePlacesRight_76 ?_
      refine zV_pc (pc' := 79) rfl ?_
      refine zr_if_ne (tgt := 92) hO dL_arePlacesRight_79 (by decide) (fun c => ?_) (fun c => ?_)
      · exact absurd e c
      · exact c82
  refine zr_aload_0 hO dL_arePlacesRight_8 ?_
  refine zr_iload_1 hO dL_arePlacesRight_9 ?_
  refine zV_pc (pc' := 10) rfl ?_
  refine a_holder H h (q := q) hq (Nat.le_of_ble_eq_true rfl) dL_arePlacesRight_10 ?_
  refine zV_pc (pc' := 13) rfl ?_
  refine zr_istore_2 hO dL_arePlacesRight_13 (by decide) rfl ?_
  refine zr_iload_2 hO dL_arePlacesRight_14 ?_
  refine zV_pc (pc' := 15) rfl ?_
  rcases j_hold h hq with e | ⟨u, hu, e, g0, g6, g4⟩
  · have hlt : M 101 q < 0 := by rw [e]; decide
    refine zr_if_lt (tgt := 36) hO dL_arePlacesRight_15 (by decide) (fun c => ?_) (fun c => ?_)
    rotate_left
    · exact absurd hlt c
    clear c
    refine zr_iload_2 hO dL_arePlacesRight_36 ?_
    refine zV_pc (pc' := 37) rfl ?_
    refine zr_if_ge (tgt := 48) hO dL_arePlacesRight_37 (by decide) (fun c => ?_) (fun c => ?_)
    · exact absurd hlt c
    clear c
    refine zV_pc (pc' := 40) rfl ?_
    refine zr_aload_0 hO dL_arePlacesRight_40 ?_
    refine zr_iload_1 hO dL_arePlacesRight_41 ?_
    refine zV_pc (pc' := 42) rfl ?_
    refine a_blocked H h (q := q) hq (Nat.le_of_ble_eq_true rfl) dL_arePlacesRight_42 ?_
    refine zV_pc (pc' := 45) rfl ?_
    refine zr_if_ne (tgt := 64) hO dL_arePlacesRight_45 (by decide) (fun c => ?_) (fun c => ?_)
    · exact absurd (k_free h hq e) c
    clear c
    refine zV_pc (pc' := 48) rfl ?_
    refine zr_iload_2 hO dL_arePlacesRight_48 ?_
    refine zV_pc (pc' := 49) rfl ?_
    refine zr_if_lt (tgt := 66) hO dL_arePlacesRight_49 (by decide) (fun c => ?_) (fun c => ?_)
    · exact c66
    · exact absurd hlt c
  · have hlt : ¬ M 101 q < 0 := by rw [e]; exact nI_pos (by omega)
    refine zr_if_lt (tgt := 36) hO dL_arePlacesRight_15 (by decide) (fun c => ?_) (fun c => ?_)
    · exact absurd c hlt
    clear c
    refine zV_pc (pc' := 18) rfl ?_
    refine zr_aload_0 hO dL_arePlacesRight_18 ?_
    refine zr_iload_2 hO dL_arePlacesRight_19 ?_
    refine zV_pc (pc' := 20) rfl ?_
    rw [e]
    refine a_stateOf H h (t := u) hu (Nat.le_of_ble_eq_true rfl) dL_arePlacesRight_20 ?_
    rw [← e]
    refine zV_pc (pc' := 23) rfl ?_
    refine zr_bipush (v := 6) hO dL_arePlacesRight_23 (by decide) ?_
    refine zV_pc (pc' := 25) rfl ?_
    refine zr_icmp_eq (tgt := 64) hO dL_arePlacesRight_25 (by decide) (fun c => ?_) (fun c => ?_)
    · exact absurd c g6
    clear c
    refine zV_pc (pc' := 28) rfl ?_
    refine zr_aload_0 hO dL_arePlacesRight_28 ?_
    refine zr_iload_2 hO dL_arePlacesRight_29 ?_
    refine zV_pc (pc' := 30) rfl ?_
    rw [e]
    refine a_stateOf H h (t := u) hu (Nat.le_of_ble_eq_true rfl) dL_arePlacesRight_30 ?_
    rw [← e]
    refine zV_pc (pc' := 33) rfl ?_
    refine zr_if_eq (tgt := 64) hO dL_arePlacesRight_33 (by decide) (fun c => ?_) (fun c => ?_)
    · exact absurd c g0
    clear c
    refine zV_pc (pc' := 36) rfl ?_
    refine zr_iload_2 hO dL_arePlacesRight_36 ?_
    refine zV_pc (pc' := 37) rfl ?_
    refine zr_if_ge (tgt := 48) hO dL_arePlacesRight_37 (by decide) (fun c => ?_) (fun c => ?_)
    rotate_left
    · exact absurd c hlt
    clear c
    refine zr_iload_2 hO dL_arePlacesRight_48 ?_
    refine zV_pc (pc' := 49) rfl ?_
    refine zr_if_lt (tgt := 66) hO dL_arePlacesRight_49 (by decide) (fun c => ?_) (fun c => ?_)
    · exact absurd c hlt
    clear c
    refine zV_pc (pc' := 52) rfl ?_
    refine zr_aload_0 hO dL_arePlacesRight_52 ?_
    refine zr_iload_1 hO dL_arePlacesRight_53 ?_
    refine zV_pc (pc' := 54) rfl ?_
    refine a_blocked H h (q := q) hq (Nat.le_of_ble_eq_true rfl) dL_arePlacesRight_54 ?_
    refine zV_pc (pc' := 57) rfl ?_
    refine zr_iload_2 hO dL_arePlacesRight_57 ?_
    refine zV_pc (pc' := 58) rfl ?_
    rw [e]
    refine zr_ishr hO dL_arePlacesRight_58 ?_
    refine zr_iconst (v := 1) hO dL_arePlacesRight_59 (by decide) ?_
    refine zr_iand hO dL_arePlacesRight_60 ?_
    refine zV_pc (pc' := 61) rfl ?_
    rw [k_wait h 4 hu, if_neg (fun e9 => g4 (of_decide_eq_true e9).1 (of_decide_eq_true e9).2), ← e]
    refine zr_if_eq (tgt := 66) hO dL_arePlacesRight_61 (by decide) (fun c => ?_) (fun c => ?_)
    · exact c66
    · exact absurd rfl c
set_option maxRecDepth 100000 in
theorem pl_145 {l : Launch} {G : zGm} {X : zCx} {D bc bs N x n K Bd q : Nat} {ly : zLy} {τ : zTu} {σ A B M : zSg} (H : zLw G X l D cL_arePlacesRight 4 ly x) (h : zJT n K Bd A M) (hK : K ≤ 190000) (next : zV G X 4 bc bs (fun z => N ≤ z) ly τ (st2 σ x A B) 205 [some (.ref x), none, none, none, none, none, none, none, none] []) : ∀ j p, p + j = ix (M 0 6) → zV G X 4 bc bs (fun z => N ≤ z) ly τ (st2 σ x A B) 145 [some (.ref x), some (.int (nI p)), none, none, none, none, none, none, none] [] := by
  have hO := H.1.1
  have hn := zJT_n h
  have hP := zmW_p3 (zI_W h.1.1)
  have hp0 := zmW_p (zI_W h.1.1)
  intro j
  induction j with
  | zero =>
    intro p hp
    refine zr_iload_1 hO dL_arePlacesRight_145 ?_
    refine zr_aload_0 hO dL_arePlacesRight_146 ?_
    refine zV_pc (pc' := 147) rfl ?_
    refine a_processors H h (Nat.le_of_ble_eq_true rfl) dL_arePlacesRight_147 ?_
    refine zV_pc (pc' := 150) rfl ?_
    refine zr_icmp_ge (tgt := 205) hO dL_arePlacesRight_150 (by decide) (fun c => ?_) (fun c => ?_)
    · refine zV_d1 ?_
      exact next
    · exact absurd ((lt_ix hp0 (by omega)).mp c) (by omega)
  | succ j ih =>
    intro p hp
    obtain ⟨r0, r1⟩ := k_ran h (p := p) (by omega)
    refine zr_iload_1 hO dL_arePlacesRight_145 ?_
    refine zr_aload_0 hO dL_arePlacesRight_146 ?_
    refine zV_pc (pc' := 147) rfl ?_
    refine a_processors H h (Nat.le_of_ble_eq_true rfl) dL_arePlacesRight_147 ?_
    refine zV_pc (pc' := 150) rfl ?_
    refine zr_icmp_ge (tgt := 205) hO dL_arePlacesRight_150 (by decide) (fun c => ?_) (fun c => ?_)
    · exact absurd ((lt_ix hp0 (by omega)).mpr (by omega)) c
    clear c
    refine zV_pc (pc' := 153) rfl ?_
    have c199 : zV G X 4 bc bs (fun z => N ≤ z) ly τ (st2 σ x A B) 199 [some (.ref x), some (.int (nI p)), none, none, none, none, none, none, none] [] := by
      refine zr_iinc_1 (v := 1) hO dL_arePlacesRight_199 (by decide) (by decide) rfl ?_
      refine zr_goto (tgt := 145) hO dL_arePlacesRight_202 (by decide) ?_
      rw [nI_1]
      exact ih (p + 1) (by omega)
    refine zr_aload_0 hO dL_arePlacesRight_153 ?_
    refine zV_pc (pc' := 154) rfl ?_
    refine a_clock H h (Nat.le_of_ble_eq_true rfl) dL_arePlacesRight_154 ?_
    refine zV_pc (pc' := 157) rfl ?_
    refine zr_if_ne (tgt := 174) hO dL_arePlacesRight_157 (by decide) (fun c => ?_) (fun c => ?_)
    · obtain ⟨r2, r3⟩ := r1 c
      refine zr_aload_0 hO dL_arePlacesRight_174 ?_
      refine zr_iload_1 hO dL_arePlacesRight_175 ?_
      refine zr_iconst (v := 1) hO dL_arePlacesRight_176 (by decide) ?_
      refine zV_pc (pc' := 177) rfl ?_
      refine a_ran H h (p := p) (by omega) hK (Nat.le_of_ble_eq_true rfl) dL_arePlacesRight_177 ?_
      refine zV_pc (pc' := 180) rfl ?_
      refine zr_iconst (v := (-1)) hO dL_arePlacesRight_180 (by decide) ?_
      refine zV_pc (pc' := 181) rfl ?_
      refine zr_icmp_lt (tgt := 197) hO dL_arePlacesRight_181 (by decide) (fun c => ?_) (fun c => ?_)
      · exact absurd (by assumption) r2
      refine zV_pc (pc' := 184) rfl ?_
      refine zr_aload_0 hO dL_arePlacesRight_184 ?_
      refine zr_iload_1 hO dL_arePlacesRight_185 ?_
      refine zr_iconst (v := 1) hO dL_arePlacesRight_186 (by decide) ?_
      refine zV_pc (pc' := 187) rfl ?_
      refine a_ran H h (p := p) (by omega) hK (Nat.le_of_ble_eq_true rfl) dL_arePlacesRight_187 ?_
      refine zV_pc (pc' := 190) rfl ?_
      refine zr_aload_0 hO dL_arePlacesRight_190 ?_
      refine zV_pc (pc' := 191) rfl ?_
      refine a_tasks H h (Nat.le_of_ble_eq_true rfl) dL_arePlacesRight_191 ?_
      refine zV_pc (pc' := 194) rfl ?_
      refine zr_icmp_lt (tgt := 199) hO dL_arePlacesRight_194 (by decide) (fun c => ?_) (fun c => ?_)
      · exact c199
      · exact absurd r3 (by assumption)
    · have e := r0 c
      refine zV_pc (pc' := 160) rfl ?_
      refine zr_aload_0 hO dL_arePlacesRight_160 ?_
      refine zr_iload_1 hO dL_arePlacesRight_161 ?_
      refine zr_iconst (v := 1) hO dL_arePlacesRight_162 (by decide) ?_
      refine zV_pc (pc' := 163) rfl ?_
      refine a_ran H h (p := p) (by omega) hK (Nat.le_of_ble_eq_true rfl) dL_arePlacesRight_163 ?_
      refine zV_pc (pc' := 166) rfl ?_
      refine zr_bipush (v := (-2)) hO dL_arePlacesRight_166 (by decide) ?_
      refine zV_pc (pc' := 168) rfl ?_
      refine zr_icmp_eq (tgt := 199) hO dL_arePlacesRight_168 (by decide) (fun c => ?_) (fun c => ?_)
      · exact c199
      · exact absurd e (by assumption)
set_option maxRecDepth 100000 in
theorem pl_205 {l : Launch} {G : zGm} {X : zCx} {D bc bs N x n K Bd q : Nat} {ly : zLy} {τ : zTu} {σ A B M : zSg} (H : zLw G X l D cL_arePlacesRight 4 ly x) (h : zJT n K Bd A M) (hU : zU B) (hK : K + 240 ≤ 190000) (next : ∀ B', zU B' → zV G X 4 bc bs (fun z => N ≤ z) ly τ (st2 σ x A B') 260 [some (.ref x), none, none, none, none, none, none, none, none] []) : zV G X 4 (bc + 2) (bs + 12) (fun z => N ≤ z) ly τ (st2 σ x A B) 205 [some (.ref x), none, none, none, none, none, none, none, none] [] := by
  have hO := H.1.1
  have c242 : ∀ B', zU B' → zV G X 4 bc bs (fun z => N ≤ z) ly τ (st2 σ x A B') 242 [some (.ref x), none, none, none, none, none, none, none, none] [] := by
    intro B' hU'
    obtain ⟨f0, f1⟩ := k_load h (by omega)
    refine zr_aload_0 hO dL_arePlacesRight_242 ?_
    refine zV_pc (pc' := 243) rfl ?_
    refine a_load H h (Nat.le_of_ble_eq_true rfl) dL_arePlacesRight_243 ?_
    refine zV_pc (pc' := 246) rfl ?_
    refine zr_dconst0 hO dL_arePlacesRight_246 ?_
    refine zV_pc (pc' := 247) rfl ?_
    refine zr_dcmp hO dL_arePlacesRight_247 ?_
    refine zV_pc (pc' := 248) rfl ?_
    refine zr_if_lt (tgt := 264) hO dL_arePlacesRight_248 (by decide) (fun c => ?_) (fun c => ?_)
    · exact absurd (by assumption) f0
    refine zV_pc (pc' := 251) rfl ?_
    refine zr_aload_0 hO dL_arePlacesRight_251 ?_
    refine zV_pc (pc' := 252) rfl ?_
    refine a_load H h (Nat.le_of_ble_eq_true rfl) dL_arePlacesRight_252 ?_
    refine zV_pc (pc' := 255) rfl ?_
    refine zr_dconst1 hO dL_arePlacesRight_255 ?_
    refine zV_pc (pc' := 256) rfl ?_
    refine zr_dcmp hO dL_arePlacesRight_256 ?_
    refine zV_pc (pc' := 257) rfl ?_
    refine zr_if_gt (tgt := 264) hO dL_arePlacesRight_257 (by decide) (fun c => ?_) (fun c => ?_)
    · exact absurd (by assumption) f1
    exact zV_pc (pc' := 260) rfl (next B' hU')
  obtain ⟨s1, s2⟩ := k_stuck M
  refine zr_aload_0 hO dL_arePlacesRight_205 ?_
  refine zr_iconst (v := 1) hO dL_arePlacesRight_206 (by decide) ?_
  refine zV_pc (pc' := 207) rfl ?_
  refine a_stuckIn H h (by omega) hU (by omega) (by omega) (Nat.le_of_ble_eq_true rfl) dL_arePlacesRight_207 (fun B207 hU207 => ?_)
  refine zV_pc (pc' := 210) rfl ?_
  by_cases g : mF_stuck M = 0
  · rcases s2 g with e | e
    · rw [e]
      refine zr_if_lt (tgt := 217) hO dL_arePlacesRight_210 (by decide) (fun c => ?_) (fun c => ?_)
      · exact absurd c (by decide)
      clear c
      refine zV_pc (pc' := 213) rfl ?_
      refine zr_iconst (v := 1) hO dL_arePlacesRight_213 (by decide) ?_
      refine zr_goto (tgt := 218) hO dL_arePlacesRight_214 (by decide) ?_
      refine zr_aload_0 hO dL_arePlacesRight_218 ?_
      refine zV_pc (pc' := 219) rfl ?_
      refine a_stuck H h (Nat.le_of_ble_eq_true rfl) dL_arePlacesRight_219 ?_
      refine zV_pc (pc' := 222) rfl ?_
      refine zr_if_ne (tgt := 234) hO dL_arePlacesRight_222 (by decide) (fun c => ?_) (fun c => ?_)
      · exact absurd g c
      clear c
      refine zV_pc (pc' := 225) rfl ?_
      refine zr_aload_0 hO dL_arePlacesRight_225 ?_
      refine zr_iconst (v := 1) hO dL_arePlacesRight_226 (by decide) ?_
      refine zV_pc (pc' := 227) rfl ?_
      refine a_stuckIn H h (by omega) hU207 (by omega) (by omega) (Nat.le_of_ble_eq_true rfl) dL_arePlacesRight_227 (fun B227 hU227 => ?_)
      refine zV_pc (pc' := 230) rfl ?_
      rw [e]
      refine zr_iconst (v := 1) hO dL_arePlacesRight_230 (by decide) ?_
      refine zV_pc (pc' := 231) rfl ?_
      refine zr_icmp_ne (tgt := 238) hO dL_arePlacesRight_231 (by decide) (fun c => ?_) (fun c => ?_)
      · exact absurd rfl c
      clear c
      refine zV_pc (pc' := 234) rfl ?_
      refine zr_iconst (v := 1) hO dL_arePlacesRight_234 (by decide) ?_
      refine zr_goto (tgt := 239) hO dL_arePlacesRight_235 (by decide) ?_
      refine zr_icmp_ne (tgt := 264) hO dL_arePlacesRight_239 (by decide) (fun c => ?_) (fun c => ?_)
      · exact absurd rfl c
      · exact zV_pc (pc' := 242) rfl (zV_b (by omega) (by omega) (c242 _ hU227))
    · rw [e]
      refine zr_if_lt (tgt := 217) hO dL_arePlacesRight_210 (by decide) (fun c => ?_) (fun c => ?_)
      rotate_left
      · exact absurd (by decide) c
      clear c
      refine zr_iconst (v := 0) hO dL_arePlacesRight_217 (by decide) ?_
      refine zr_aload_0 hO dL_arePlacesRight_218 ?_
      refine zV_pc (pc' := 219) rfl ?_
      refine a_stuck H h (Nat.le_of_ble_eq_true rfl) dL_arePlacesRight_219 ?_
      refine zV_pc (pc' := 222) rfl ?_
      refine zr_if_ne (tgt := 234) hO dL_arePlacesRight_222 (by decide) (fun c => ?_) (fun c => ?_)
      · exact absurd g c
      clear c
      refine zV_pc (pc' := 225) rfl ?_
      refine zr_aload_0 hO dL_arePlacesRight_225 ?_
      refine zr_iconst (v := 1) hO dL_arePlacesRight_226 (by decide) ?_
      refine zV_pc (pc' := 227) rfl ?_
      refine a_stuckIn H h (by omega) hU207 (by omega) (by omega) (Nat.le_of_ble_eq_true rfl) dL_arePlacesRight_227 (fun B227 hU227 => ?_)
      refine zV_pc (pc' := 230) rfl ?_
      rw [e]
      refine zr_iconst (v := 1) hO dL_arePlacesRight_230 (by decide) ?_
      refine zV_pc (pc' := 231) rfl ?_
      refine zr_icmp_ne (tgt := 238) hO dL_arePlacesRight_231 (by decide) (fun c => ?_) (fun c => ?_)
      rotate_left
      · exact absurd c (by decide)
      clear c
      refine zr_iconst (v := 0) hO dL_arePlacesRight_238 (by decide) ?_
      refine zV_pc (pc' := 239) rfl ?_
      refine zr_icmp_ne (tgt := 264) hO dL_arePlacesRight_239 (by decide) (fun c => ?_) (fun c => ?_)
      · exact absurd rfl c
      · exact zV_pc (pc' := 242) rfl (zV_b (by omega) (by omega) (c242 _ hU227))
  · rw [s1 g]
    refine zr_if_lt (tgt := 217) hO dL_arePlacesRight_210 (by decide) (fun c => ?_) (fun c => ?_)
    · exact absurd c (by decide)
    clear c
    refine zV_pc (pc' := 213) rfl ?_
    refine zr_iconst (v := 1) hO dL_arePlacesRight_213 (by decide) ?_
    refine zr_goto (tgt := 218) hO dL_arePlacesRight_214 (by decide) ?_
    refine zr_aload_0 hO dL_arePlacesRight_218 ?_
    refine zV_pc (pc' := 219) rfl ?_
    refine a_stuck H h (Nat.le_of_ble_eq_true rfl) dL_arePlacesRight_219 ?_
    refine zV_pc (pc' := 222) rfl ?_
    refine zr_if_ne (tgt := 234) hO dL_arePlacesRight_222 (by decide) (fun c => ?_) (fun c => ?_)
    rotate_left
    · exact absurd c g
    clear c
    refine zr_iconst (v := 1) hO dL_arePlacesRight_234 (by decide) ?_
    refine zr_goto (tgt := 239) hO dL_arePlacesRight_235 (by decide) ?_
    refine zr_icmp_ne (tgt := 264) hO dL_arePlacesRight_239 (by decide) (fun c => ?_) (fun c => ?_)
    · exact absurd rfl c
    · exact zV_pc (pc' := 242) rfl (zV_b (by omega) (by omega) (c242 _ hU207))
set_option maxRecDepth 100000 in
theorem e_L_arePlacesRight {l : Launch} {G : zGm} {d N x n K Bd : Nat} {ly : zLy} {τ : zTu} {σ A B M : zSg} (htr : l.stackTraces = false) (hX : ly x = (6 + 5, 2, zcr6 (x + 1) (x + 96)) ∧ zC ly (x + 1) ∧ zC ly (x + 96)) (hLL : G.2.2.2.2.1 ≤ 260) (h : zJT n K Bd A M) (hU : zU B) (hK : K + 240 ≤ 190000) (hd : 11 ≤ d) : zEv l G d 2 12 (yL_arePlacesRight, cL_arePlacesRight, 4, some .boolean) [.ref x] (fun z => N ≤ z) ly τ (st2 σ x A B) (zPj N x ly τ σ (fun w A' B' => w = some (.int 1) ∧ zU B' ∧ zJT n K Bd A' M)) := by
  refine zEv_of (ls := [some (.ref x), none, none, none, none, none, none, none, none]) htr (by decide) (Nat.le_of_ble_eq_true rfl) rfl (fun X hO hE hN hRm hL hNm => ?_)
  have hO : zOk G X RL cL_arePlacesRight 4 := hO
  have H : zLw G X l d cL_arePlacesRight 4 ly x := ⟨⟨hO, hRm, hL, hd, htr⟩, hX, hLL⟩
  have hn := zJT_n h
  have loop : ∀ j q (A : zSg), q + j = 6 → zJT n K Bd A M → zV G X 4 2 12 (fun z => N ≤ z) ly τ (st2 σ x A B) 2 [some (.ref x), some (.int (nI q)), none, none, none, none, none, none, none] [] := by
    intro j
    induction j with
    | zero =>
      intro q A hq h
      refine zr_iload_1 hO dL_arePlacesRight_2 ?_
      refine zr_bipush (v := 6) hO dL_arePlacesRight_3 (by decide) ?_
      refine zV_pc (pc' := 5) rfl ?_
      refine zr_icmp_ge (tgt := 143) hO dL_arePlacesRight_5 (by decide) (fun c => ?_) (fun c => ?_)
      · clear c
        refine zV_pc (pc' := 143) rfl ?_
        refine zr_iconst (v := 0) hO dL_arePlacesRight_143 (by decide) ?_
        refine zr_istore_1 hO dL_arePlacesRight_144 (by decide) rfl ?_
        refine zV_pc (pc' := 145) rfl ?_
        refine pl_145 (q := 0) H h (by omega) ?_ (ix (M 0 6)) 0 (Nat.zero_add _)
        refine pl_205 (q := 0) (bc := 0) (bs := 0) H h hU hK (fun B' hU' => ?_)
        refine zr_iconst (v := 1) hO dL_arePlacesRight_260 (by decide) ?_
        refine zr_goto (tgt := 265) hO dL_arePlacesRight_261 (by decide) ?_
        exact zr_zreturn hO hE (by decide) dL_arePlacesRight_265 (fun z hz => ⟨_, A, B', rfl, ⟨rfl, hU', h⟩, rfl, hz, rfl, rfl⟩)
      · rw [i_lt, nI_rng (by omega), show (6 : Int32).toInt = 6 from rfl] at c
        omega
    | succ j ih =>
      intro q A hq h
      refine zr_iload_1 hO dL_arePlacesRight_2 ?_
      refine zr_bipush (v := 6) hO dL_arePlacesRight_3 (by decide) ?_
      refine zV_pc (pc' := 5) rfl ?_
      refine zr_icmp_ge (tgt := 143) hO dL_arePlacesRight_5 (by decide) (fun c => ?_) (fun c => ?_)
      · rw [i_lt, nI_rng (by omega), show (6 : Int32).toInt = 6 from rfl] at c
        omega
      · exact zV_pc (pc' := 8) rfl (pl_one H h (by omega) (fun A' h' => ih (q + 1) A' (by omega) h'))
  refine zr_iconst (v := 0) hO dL_arePlacesRight_0 (by decide) ?_
  refine zr_istore_1 hO dL_arePlacesRight_1 (by decide) rfl ?_
  refine zV_pc (pc' := 2) rfl ?_
  exact loop 6 0 A (by omega) h
