/-! The law: one act, walked -/
set_option maxRecDepth 100000 in
set_option maxHeartbeats 2000000 in
theorem e_L_act {l : Launch} {G : zGm} {d N x n K Bd : Nat} {ly : zLy} {τ : zTu} {σ A B M : zSg} {v : Int32} (htr : l.stackTraces = false) (hX : ly x = (6 + 5, 2, zcr6 (x + 1) (x + 96)) ∧ zC ly (x + 1) ∧ zC ly (x + 96)) (hLL : G.2.2.2.2.1 ≤ 260) (h : zJT n K Bd A M) (hU : zU B) (h2n : 2 ≤ n) (hK : K + 300 ≤ 190000) (hB : Bd + 700 ≤ 2000000000) (hd : 12 ≤ d) : zEvH l G d 8 48 (yL_act, cL_act, 11, some .boolean) [(20, 95, 329, 117), (96, 156, 329, 117), (157, 227, 329, 117), (228, 299, 329, 117), (300, 325, 329, 117)] [.ref x, .int (nI n), .int v] (fun z => N ≤ z) ly τ (st2 σ x A B) (zPj N x ly τ σ (fun w A' B' => w = some (.int 1) ∧ zU B' ∧ ∃ M', zJT n (K + 24) (Bd + 600) A' M')) := by
  refine zEvH_of (ls := [some (.ref x), some (.int (nI n)), some (.int v), none, none, none, none, none, none, none, none]) htr (by decide) (Nat.le_of_ble_eq_true rfl) rfl (fun X hO hE hT hRm hL hNm => ?_)
  have hO : zOk G X RL cL_act 11 := hO
  have H : zLw G X l d cL_act 11 ly x := ⟨⟨hO, hRm, hL, by omega, htr⟩, hX, hLL⟩
  have hn := zJT_n h
  have hck := zI_K h.1.1
  have fin : ∀ (bc bs pc K' B' : Nat) (A B M : zSg) (ls : List (Option Value)), decode cL_act pc = .ok (.ireturn, 1) → zU B → zJT n K' B' A M → K' ≤ K + 24 → B' ≤ Bd + 600 → zV G X 11 bc bs (fun z => N ≤ z) ly τ (st2 σ x A B) pc ls [.int 1] := by
    intro bc bs pc K' B' A B M ls hdg hU h hK9 hB9
    exact zr_zreturn hO hE (by decide) hdg (fun z hz => ⟨_, A, B, rfl, ⟨rfl, hU, M, zJT_le h hK9 hB9⟩, rfl, hz, rfl, rfl⟩)
  have e355 : ∀ (bc bs K' B' : Nat) (A B M : zSg) (ls : List (Option Value)), zU B → zJT n K' B' A M → K' ≤ K + 24 → B' ≤ Bd + 600 → zV G X 11 bc bs (fun z => N ≤ z) ly τ (st2 σ x A B) 326 ls [] := by
    intro bc bs K' B' A B M ls hU h hK9 hB9
    refine zr_goto (tgt := 355) hO dL_act_326 (by decide) ?_
    refine zr_iconst (v := 1) hO dL_act_355 (by decide) ?_
    exact fin _ _ 356 _ _ A B M ls dL_act_356 hU h hK9 hB9
  refine zr_iloadE_2 hO dL_act_0 ?_
  refine zr_iconst (v := 4) hO dL_act_1 (by decide) ?_
  refine zr_ishr hO dL_act_2 ?_
  refine zr_iloadE_1 hO dL_act_3 ?_
  refine zV_pc (pc' := 4) rfl ?_
  refine a_below (k := n) H (by omega) (by omega) (Nat.le_of_ble_eq_true rfl) dL_act_4 (fun t ht => ?_)
  refine zV_pc (pc' := 7) rfl ?_
  refine zr_istoreE_3 hO dL_act_7 (by decide) rfl ?_
  refine zr_aloadE_0 hO dL_act_8 ?_
  refine zV_pc (pc' := 9) rfl ?_
  refine a_clock H h (Nat.le_of_ble_eq_true rfl) dL_act_9 ?_
  refine zV_pc (pc' := 12) rfl ?_
  refine zr_istoreE_4 hO dL_act_12 (by decide) rfl ?_
  refine zr_aloadE_0 hO dL_act_14 ?_
  refine zV_pc (pc' := 15) rfl ?_
  refine a_idle H h (Nat.le_of_ble_eq_true rfl) dL_act_15 ?_
  refine zV_pc (pc' := 18) rfl ?_
  have catch_ : ∀ q : Nat, zV G X 11 7 42 (fun z => N ≤ z) ly τ (st2 σ x A B) 329 [some (.ref x), some (.int (nI n)), some (.int v), some (.int (nI t)), some (.int (M 0 1)), some (.int (M 0 12)), none, none, none, none, none] [.ref q] := by
    intro q
    refine zr_astoreE_6 hO dL_act_329 (by decide) rfl ?_
    refine zr_aloadE_0 hO dL_act_331 ?_
    refine zV_pc (pc' := 332) rfl ?_
    refine a_clock H h (Nat.le_of_ble_eq_true rfl) dL_act_332 ?_
    refine zV_pc (pc' := 335) rfl ?_
    refine zr_iloadE_4 hO dL_act_335 ?_
    refine zV_pc (pc' := 337) rfl ?_
    refine zr_icmp_ne (tgt := 353) hO dL_act_337 (by decide) (fun c => ?_) (fun c => ?_)
    · exact absurd rfl c
    clear c
    refine zV_pc (pc' := 340) rfl ?_
    refine zr_aloadE_0 hO dL_act_340 ?_
    refine zV_pc (pc' := 341) rfl ?_
    refine a_idle H h (Nat.le_of_ble_eq_true rfl) dL_act_341 ?_
    refine zV_pc (pc' := 344) rfl ?_
    refine zr_iloadE_5 hO dL_act_344 ?_
    refine zV_pc (pc' := 346) rfl ?_
    refine zr_icmp_ne (tgt := 353) hO dL_act_346 (by decide) (fun c => ?_) (fun c => ?_)
    · exact absurd rfl c
    clear c
    refine zV_pc (pc' := 349) rfl ?_
    refine zr_iconst (v := 1) hO dL_act_349 (by decide) ?_
    refine zr_goto (tgt := 354) hO dL_act_350 (by decide) ?_
    exact fin _ _ 354 _ _ A B M _ dL_act_354 hU h (by omega) (by omega)
  refine zr_istoreE_5 hO dL_act_18 (by decide) rfl ?_
  refine zr_iloadE_2 hO dL_act_20 ?_
  refine zr_bipush (v := 12) hO dL_act_21 (by decide) ?_
  refine zV_pc (pc' := 23) rfl ?_
  refine a_below (k := 12) H (by decide) (by decide) (Nat.le_of_ble_eq_true rfl) dL_act_23 (fun r hr => ?_)
  refine zV_pc (pc' := 26) rfl ?_
  have s_start : zV G X 11 8 48 (fun z => N ≤ z) ly τ (st2 σ x A B) 68 [some (.ref x), some (.int (nI n)), some (.int v), some (.int (nI t)), some (.int (M 0 1)), some (.int (M 0 12)), none, none, none, none, none] [] := by
    refine zr_aloadE_0 hO dL_act_68 ?_
    refine zr_iloadE_3 hO dL_act_69 ?_
    refine zV_pc (pc' := 70) rfl ?_
    refine a_start H h (by omega) ht (by omega) (by omega) (Nat.le_of_ble_eq_true rfl) dL_act_70 ?_ (fun A1 M1 hh => ?_)
    · exact zX_catch2 hO hT [] [(96, 156, 329, 117), (157, 227, 329, 117), (228, 299, 329, 117), (300, 325, 329, 117)] (a1 := 20) (a2 := 95) (a3 := 329) (ct := 117) rfl (fun z hz => absurd hz List.not_mem_nil) (by decide) (by decide) zk_L_117 zka_IS catch_
    obtain ⟨h1, e1⟩ := hh
    refine zV_pc (pc' := 73) rfl ?_
    refine zr_aloadE_0 hO dL_act_73 ?_
    refine zr_iloadE_3 hO dL_act_74 ?_
    refine zV_pc (pc' := 75) rfl ?_
    refine a_standOf H h1 (t := t) ht (Nat.le_of_ble_eq_true rfl) dL_act_75 ?_
    refine zV_pc (pc' := 78) rfl ?_
    refine zr_icmp_ne (tgt := 94) hO dL_act_78 (by decide) (fun c => ?_) (fun c => ?_)
    · exact absurd rfl c
    clear c
    refine zV_pc (pc' := 81) rfl ?_
    refine zr_aloadE_0 hO dL_act_81 ?_
    refine zr_iloadE_3 hO dL_act_82 ?_
    refine zV_pc (pc' := 83) rfl ?_
    refine a_stateOf H h1 (t := t) ht (Nat.le_of_ble_eq_true rfl) dL_act_83 ?_
    refine zV_pc (pc' := 86) rfl ?_
    rw [e1]
    refine zr_iconst (v := 1) hO dL_act_86 (by decide) ?_
    refine zV_pc (pc' := 87) rfl ?_
    refine zr_icmp_ne (tgt := 94) hO dL_act_87 (by decide) (fun c => ?_) (fun c => ?_)
    · exact absurd rfl c
    clear c
    refine zV_pc (pc' := 90) rfl ?_
    refine zr_iconst (v := 1) hO dL_act_90 (by decide) ?_
    refine zr_goto (tgt := 95) hO dL_act_91 (by decide) ?_
    exact fin _ _ 95 _ _ A1 B M1 _ dL_act_95 hU h1 (by omega) (by omega)
  have s_set : zV G X 11 8 48 (fun z => N ≤ z) ly τ (st2 σ x A B) 96 [some (.ref x), some (.int (nI n)), some (.int v), some (.int (nI t)), some (.int (M 0 1)), some (.int (M 0 12)), none, none, none, none, none] [] := by
    refine zr_aloadE_0 hO dL_act_96 ?_
    refine zr_iloadE_2 hO dL_act_97 ?_
    refine zr_iconst (v := 3) hO dL_act_98 (by decide) ?_
    refine zr_ishr hO dL_act_99 ?_
    refine zV_pc (pc' := 100) rfl ?_
    refine z_callS (D := d) (As := [.ref x, .int (v >>> (3 &&& 31))]) hO hRm hL (by omega) (by decide) rfl (e_L_set (d := d - 1) htr hX hLL h (by omega)) zl_L_77 zt_L_set zc_L_set zn_L zd_L_set (Nat.le_of_ble_eq_true rfl) dL_act_100 (by omega) (by omega) (fun E z ly9 τ9 σ9 g => ?_) (fun v9 z ly9 τ9 σ9 g => ?_)
    · obtain ⟨_, _, _, g1, _⟩ := g
      cases g1
    obtain ⟨v1, A1, B1, g1, ⟨rfl, rfl, M1, h1⟩, rfl, hz, rfl, rfl⟩ := g
    cases g1
    refine zV_S (S' := fun z => N ≤ z) (fun y hy => by subst hy; exact hz) ?_
    refine zV_pc (pc' := 103) rfl ?_
    refine zr_goto (tgt := 326) hO dL_act_103 (by decide) ?_
    exact e355 _ _ _ _ A1 B1 M1 _ hU h1 (by omega) (by omega)
  have s_end : zV G X 11 8 48 (fun z => N ≤ z) ly τ (st2 σ x A B) 106 [some (.ref x), some (.int (nI n)), some (.int v), some (.int (nI t)), some (.int (M 0 1)), some (.int (M 0 12)), none, none, none, none, none] [] := by
    refine zr_iloadE_2 hO dL_act_106 ?_
    refine zr_bipush (v := 6) hO dL_act_107 (by decide) ?_
    refine zr_ishr hO dL_act_109 ?_
    refine zr_iconst (v := 3) hO dL_act_110 (by decide) ?_
    refine zV_pc (pc' := 111) rfl ?_
    refine a_below (k := 3) H (by decide) (by decide) (Nat.le_of_ble_eq_true rfl) dL_act_111 (fun r3 hr3 => ?_)
    refine zV_pc (pc' := 114) rfl ?_
    refine zr_if_le (tgt := 120) hO dL_act_114 (by decide) (fun c => ?_) (fun c => ?_)
    rotate_left
    · refine zV_pc (pc' := 117) rfl ?_
      refine zr_goto (tgt := 326) hO dL_act_117 (by decide) ?_
      exact e355 _ _ _ _ A B M _ hU h (by omega) (by omega)
    clear c
    refine zr_aloadE_0 hO dL_act_120 ?_
    refine zr_iloadE_3 hO dL_act_121 ?_
    refine zV_pc (pc' := 122) rfl ?_
    refine a_end H h (by omega) ht (by omega) (by omega) (Nat.le_of_ble_eq_true rfl) dL_act_122 ?_ (fun A1 M1 hh => ?_)
    · exact zX_catch2 hO hT [(20, 95, 329, 117)] [(157, 227, 329, 117), (228, 299, 329, 117), (300, 325, 329, 117)] (a1 := 96) (a2 := 156) (a3 := 329) (ct := 117) rfl (fun z hz => by rw [List.mem_singleton.mp hz]; decide) (by decide) (by decide) zk_L_117 zka_IS catch_
    obtain ⟨n6, h1, e1, e2⟩ := hh
    refine zV_pc (pc' := 125) rfl ?_
    refine zr_bipush (v := 6) hO dL_act_125 (by decide) ?_
    refine zV_pc (pc' := 127) rfl ?_
    refine zr_icmp_ge (tgt := 155) hO dL_act_127 (by decide) (fun c => ?_) (fun c => ?_)
    · have g := k_st h t
      rw [i_lt, show (6 : Int32).toInt = 6 from rfl] at c
      exact absurd (Int32.toInt_inj.mp (show (M 41 t).toInt = (6 : Int32).toInt by rw [show (6 : Int32).toInt = 6 from rfl]; omega)) n6
    clear c
    refine zV_pc (pc' := 130) rfl ?_
    refine zr_aloadE_0 hO dL_act_130 ?_
    refine zr_iloadE_3 hO dL_act_131 ?_
    refine zV_pc (pc' := 132) rfl ?_
    refine a_stateOf H h1 (t := t) ht (Nat.le_of_ble_eq_true rfl) dL_act_132 ?_
    refine zV_pc (pc' := 135) rfl ?_
    rw [e1]
    refine zr_bipush (v := 6) hO dL_act_135 (by decide) ?_
    refine zV_pc (pc' := 137) rfl ?_
    refine zr_icmp_ne (tgt := 155) hO dL_act_137 (by decide) (fun c => ?_) (fun c => ?_)
    · exact absurd rfl c
    clear c
    refine zV_pc (pc' := 140) rfl ?_
    refine zr_aloadE_0 hO dL_act_140 ?_
    refine zr_iloadE_3 hO dL_act_141 ?_
    refine zr_iconst (v := 4) hO dL_act_142 (by decide) ?_
    refine zV_pc (pc' := 143) rfl ?_
    refine a_told H h1 (t := t) ht (w := 4) (by decide) (Nat.le_of_ble_eq_true rfl) dL_act_143 ?_
    refine zV_pc (pc' := 146) rfl ?_
    rw [e2]
    refine zr_iloadE_4 hO dL_act_146 ?_
    refine zV_pc (pc' := 148) rfl ?_
    refine zr_icmp_ne (tgt := 155) hO dL_act_148 (by decide) (fun c => ?_) (fun c => ?_)
    · exact absurd rfl c
    clear c
    refine zV_pc (pc' := 151) rfl ?_
    refine zr_iconst (v := 1) hO dL_act_151 (by decide) ?_
    refine zr_goto (tgt := 156) hO dL_act_152 (by decide) ?_
    exact fin _ _ 156 _ _ A1 B M1 _ dL_act_156 hU h1 (by omega) (by omega)
  have s_signal : zV G X 11 8 48 (fun z => N ≤ z) ly τ (st2 σ x A B) 157 [some (.ref x), some (.int (nI n)), some (.int v), some (.int (nI t)), some (.int (M 0 1)), some (.int (M 0 12)), none, none, none, none, none] [] := by
    obtain ⟨q, hq, eq⟩ : ∃ q, q < 6 ∧ bel (v >>> (6 &&& 31)) 6 = q := ⟨_, bel_lt _ (by decide), rfl⟩
    refine zr_aloadE_0 hO dL_act_157 ?_
    refine zr_iloadE_2 hO dL_act_158 ?_
    refine zr_bipush (v := 6) hO dL_act_159 (by decide) ?_
    refine zr_ishr hO dL_act_161 ?_
    refine zr_bipush (v := 6) hO dL_act_162 (by decide) ?_
    refine zV_pc (pc' := 164) rfl ?_
    refine a_belowV (k := 6) H (by decide) (by decide) (Nat.le_of_ble_eq_true rfl) dL_act_164 ?_
    rw [eq]
    refine zV_pc (pc' := 167) rfl ?_
    refine a_number H h (q := q) hq (Nat.le_of_ble_eq_true rfl) dL_act_167 ?_
    refine zV_pc (pc' := 170) rfl ?_
    refine zr_istoreE_6 hO dL_act_170 (by decide) rfl ?_
    refine zr_aloadE_0 hO dL_act_172 ?_
    refine zr_iloadE_2 hO dL_act_173 ?_
    refine zr_bipush (v := 6) hO dL_act_174 (by decide) ?_
    refine zr_ishr hO dL_act_176 ?_
    refine zV_pc (pc' := 177) rfl ?_
    refine zr_bipush (v := 6) hO dL_act_177 (by decide) ?_
    refine zV_pc (pc' := 179) rfl ?_
    refine a_belowV (k := 6) H (by decide) (by decide) (Nat.le_of_ble_eq_true rfl) dL_act_179 ?_
    rw [eq]
    refine zV_pc (pc' := 182) rfl ?_
    refine a_awaiting H h (q := q) hq (Nat.le_of_ble_eq_true rfl) dL_act_182 ?_
    refine zV_pc (pc' := 185) rfl ?_
    refine zr_istoreE_7 hO dL_act_185 (by decide) rfl ?_
    refine zr_aloadE_0 hO dL_act_187 ?_
    refine zr_iloadE_2 hO dL_act_188 ?_
    refine zr_bipush (v := 6) hO dL_act_189 (by decide) ?_
    refine zr_ishr hO dL_act_191 ?_
    refine zV_pc (pc' := 192) rfl ?_
    refine zr_bipush (v := 6) hO dL_act_192 (by decide) ?_
    refine zV_pc (pc' := 194) rfl ?_
    refine a_belowV (k := 6) H (by decide) (by decide) (Nat.le_of_ble_eq_true rfl) dL_act_194 ?_
    rw [eq]
    refine zV_pc (pc' := 197) rfl ?_
    refine a_signal H h (by omega) hq (by omega) (by omega) (Nat.le_of_ble_eq_true rfl) dL_act_197 (fun A1 v1 M1 hh => ?_)
    refine zV_pc (pc' := 200) rfl ?_
    obtain ⟨h1, hv⟩ := hh
    have s222 : ∀ ls, zV G X 11 7 42 (fun z => N ≤ z) ly τ (st2 σ x A1 B) 222 ls [] := by
      intro ls
      refine zr_iconst (v := 1) hO dL_act_222 (by decide) ?_
      refine zr_goto (tgt := 227) hO dL_act_223 (by decide) ?_
      exact fin _ _ 227 _ _ A1 B M1 ls dL_act_227 hU h1 (by omega) (by omega)
    refine zr_iloadE_7 hO dL_act_200 ?_
    refine zV_pc (pc' := 202) rfl ?_
    refine zr_if_ne (tgt := 217) hO dL_act_202 (by decide) (fun c => ?_) (fun c => ?_)
    · have ev : v1 = M 102 q := by
        rcases hv with ⟨g, _⟩ | ⟨_, g⟩
        · exact absurd g c
        · exact g
      refine zr_iloadE_6 hO dL_act_217 ?_
      refine zV_pc (pc' := 219) rfl ?_
      refine zr_icmp_ne (tgt := 226) hO dL_act_219 (by decide) (fun c => ?_) (fun c => ?_)
      · exact absurd ev c
      · exact zV_pc (pc' := 222) rfl (s222 _)
    · have ev : v1 = (if M 102 q + 1 < 99 then M 102 q + 1 else 99) := by
        rcases hv with ⟨_, g⟩ | ⟨g, _⟩
        · exact g
        · exact absurd c g
      refine zV_pc (pc' := 205) rfl ?_
      refine zr_bipush (v := 99) hO dL_act_205 (by decide) ?_
      refine zr_iloadE_6 hO dL_act_207 ?_
      refine zr_iconst (v := 1) hO dL_act_209 (by decide) ?_
      refine zr_iadd hO dL_act_210 ?_
      refine zV_pc (pc' := 211) rfl ?_
      refine zr_mmin hO (by omega) hRm zl_L_96 dL_act_211 (Nat.le_of_ble_eq_true rfl) ?_
      refine zV_pc (pc' := 214) rfl ?_
      refine zr_goto (tgt := 219) hO dL_act_214 (by decide) ?_
      refine zr_icmp_ne (tgt := 226) hO dL_act_219 (by decide) (fun c => ?_) (fun c => ?_)
      · exact absurd ev c
      · exact zV_pc (pc' := 222) rfl (s222 _)
  have s_rank : zV G X 11 8 48 (fun z => N ≤ z) ly τ (st2 σ x A B) 228 [some (.ref x), some (.int (nI n)), some (.int v), some (.int (nI t)), some (.int (M 0 1)), some (.int (M 0 12)), none, none, none, none, none] [] := by
    refine zr_aloadE_0 hO dL_act_228 ?_
    refine zr_iloadE_3 hO dL_act_229 ?_
    refine zr_iloadE_2 hO dL_act_230 ?_
    refine zr_bipush (v := 6) hO dL_act_231 (by decide) ?_
    refine zr_ishr hO dL_act_233 ?_
    refine zV_pc (pc' := 234) rfl ?_
    refine zr_bipush (v := 8) hO dL_act_234 (by decide) ?_
    refine zV_pc (pc' := 236) rfl ?_
    refine a_below (k := 8) H (by decide) (by decide) (Nat.le_of_ble_eq_true rfl) dL_act_236 (fun r3 hr3 => ?_)
    refine zV_pc (pc' := 239) rfl ?_
    refine a_setRank H h ht (is_nI (a := 0) (b := 7) (by omega) (by omega) (by decide) rfl rfl) (by omega) (by omega) (Nat.le_of_ble_eq_true rfl) dL_act_239 (fun A1 v1 M1 h1 => ?_)
    refine zV_pc (pc' := 242) rfl ?_
    refine zr_pop hO dL_act_242 rfl ?_
    refine zr_goto (tgt := 326) hO dL_act_243 (by decide) ?_
    exact e355 _ _ _ _ A1 B M1 _ hU h1 (by omega) (by omega)
  have s_tick : zV G X 11 8 48 (fun z => N ≤ z) ly τ (st2 σ x A B) 246 [some (.ref x), some (.int (nI n)), some (.int v), some (.int (nI t)), some (.int (M 0 1)), some (.int (M 0 12)), none, none, none, none, none] [] := by
    refine zr_iconst (v := 1) hO dL_act_246 (by decide) ?_
    refine zr_iloadE_2 hO dL_act_247 ?_
    refine zr_iconst (v := 4) hO dL_act_248 (by decide) ?_
    refine zr_ishr hO dL_act_249 ?_
    refine zr_bipush (v := 6) hO dL_act_250 (by decide) ?_
    refine zV_pc (pc' := 252) rfl ?_
    refine a_below (k := 6) H (by decide) (by decide) (Nat.le_of_ble_eq_true rfl) dL_act_252 (fun r3 hr3 => ?_)
    refine zV_pc (pc' := 255) rfl ?_
    refine zr_iadd hO dL_act_255 ?_
    refine zV_pc (pc' := 256) rfl ?_
    rw [show (1 : Int32) = nI 1 from rfl, nI_pl]
    obtain ⟨j, hj⟩ : ∃ j, j = 1 + r3 := ⟨_, rfl⟩
    rw [← hj]
    obtain ⟨M', e1, eT, h1, ec, ep, ea⟩ := t_tick (j := j) h (by omega) (by omega) (by omega) (by omega)
    refine zr_istoreE_8 hO dL_act_256 (by decide) rfl ?_
    refine zr_aloadE_0 hO dL_act_258 ?_
    refine zr_iloadE_8 hO dL_act_259 ?_
    refine zV_pc (pc' := 261) rfl ?_
    refine a_idleIn H h (by omega) (by omega) (by omega) e1 hU (by omega) (by omega) (Nat.le_of_ble_eq_true rfl) dL_act_261 (fun B1 hU1 => ?_)
    refine zV_pc (pc' := 264) rfl ?_
    refine zr_istoreE_9 hO dL_act_264 (by decide) rfl ?_
    refine zr_aloadE_0 hO dL_act_266 ?_
    refine zV_pc (pc' := 267) rfl ?_
    refine zr_S1 (D := d) hO hRm hL (by omega) (by decide) rfl (e_L_ran (d := d - 1) htr hX hLL h (by omega) (by omega)) zl_L_107 zt_L_ran zc_L_ran zn_L zd_L_ran (Nat.le_of_ble_eq_true rfl) dL_act_267 (by omega) (by omega) ?_
    refine zV_pc (pc' := 270) rfl ?_
    refine zr_istoreE_10 hO dL_act_270 (by decide) rfl ?_
    refine zr_aloadE_0 hO dL_act_272 ?_
    refine zr_iloadE_8 hO dL_act_273 ?_
    refine zV_pc (pc' := 275) rfl ?_
    refine a_tick H h eT (by omega) (by omega) (Nat.le_of_ble_eq_true rfl) dL_act_275 ?_
    refine zV_pc (pc' := 278) rfl ?_
    refine zr_iloadE_4 hO dL_act_278 ?_
    refine zr_iloadE_8 hO dL_act_280 ?_
    refine zr_iadd hO dL_act_282 ?_
    refine zV_pc (pc' := 283) rfl ?_
    refine zr_icmp_ne (tgt := 298) hO dL_act_283 (by decide) (fun c => ?_) (fun c => ?_)
    · exact absurd ec c
    clear c
    refine zV_pc (pc' := 286) rfl ?_
    refine zr_aloadE_0 hO dL_act_286 ?_
    refine zV_pc (pc' := 287) rfl ?_
    refine a_idle H h1 (Nat.le_of_ble_eq_true rfl) dL_act_287 ?_
    refine zV_pc (pc' := 290) rfl ?_
    refine zr_iloadE_5 hO dL_act_290 ?_
    refine zr_iloadE_9 hO dL_act_292 ?_
    refine zr_iadd hO dL_act_294 ?_
    refine zV_pc (pc' := 295) rfl ?_
    rw [add_back]
    refine zr_icmp_eq (tgt := 300) hO dL_act_295 (by decide) (fun c => ?_) (fun c => ?_)
    rotate_left
    · exact absurd rfl c
    clear c
    refine zr_aloadE_0 hO dL_act_300 ?_
    refine zV_pc (pc' := 301) rfl ?_
    refine zr_S1 (D := d) hO hRm hL (by omega) (by decide) rfl (e_L_ran (d := d - 1) htr hX hLL h1 (by omega) (by omega)) zl_L_107 zt_L_ran zc_L_ran zn_L zd_L_ran (Nat.le_of_ble_eq_true rfl) dL_act_301 (by omega) (by omega) ?_
    refine zV_pc (pc' := 304) rfl ?_
    refine zr_iloadE_10 hO dL_act_304 ?_
    refine zr_isub hO dL_act_306 ?_
    refine zr_iloadE_9 hO dL_act_307 ?_
    refine zr_iadd hO dL_act_309 ?_
    refine zr_iloadE_8 hO dL_act_310 ?_
    refine zV_pc (pc' := 312) rfl ?_
    refine zr_aloadE_0 hO dL_act_312 ?_
    refine zV_pc (pc' := 313) rfl ?_
    refine a_processors H h1 (Nat.le_of_ble_eq_true rfl) dL_act_313 ?_
    refine zV_pc (pc' := 316) rfl ?_
    refine zr_imul hO dL_act_316 ?_
    refine zV_pc (pc' := 317) rfl ?_
    refine zr_icmp_ne (tgt := 324) hO dL_act_317 (by decide) (fun c => ?_) (fun c => ?_)
    · refine absurd ?_ c
      have hP := zmW_p3 (zI_W h.1.1)
      have a1 := h.1.2.1.2.2.2
      have a2 := h1.1.2.1.2.2.2
      rw [ep, show M 0 6 = nI (ix (M 0 6)) from (nI_ix (zmW_p (zI_W h.1.1))).symm, mul_sm j (by omega) _ (by omega)]
      exact sum_eq a1 a2 ea
    clear c
    refine zV_pc (pc' := 320) rfl ?_
    refine zr_iconst (v := 1) hO dL_act_320 (by decide) ?_
    refine zr_goto (tgt := 325) hO dL_act_321 (by decide) ?_
    exact fin _ _ 325 _ _ _ B1 M' _ dL_act_325 hU1 h1 (by omega) (by omega)
  match r, hr with
  | 0, _ => exact zr_tabIn hO dL_act_26 (off := 42) (tgt := 68) (by decide) (by decide) rfl (by decide) s_start
  | 1, _ => exact zr_tabIn hO dL_act_26 (off := 42) (tgt := 68) (by decide) (by decide) rfl (by decide) s_start
  | 2, _ => exact zr_tabIn hO dL_act_26 (off := 42) (tgt := 68) (by decide) (by decide) rfl (by decide) s_start
  | 3, _ => exact zr_tabIn hO dL_act_26 (off := 70) (tgt := 96) (by decide) (by decide) rfl (by decide) s_set
  | 4, _ => exact zr_tabIn hO dL_act_26 (off := 80) (tgt := 106) (by decide) (by decide) rfl (by decide) s_end
  | 5, _ => exact zr_tabIn hO dL_act_26 (off := 131) (tgt := 157) (by decide) (by decide) rfl (by decide) s_signal
  | 6, _ => exact zr_tabIn hO dL_act_26 (off := 202) (tgt := 228) (by decide) (by decide) rfl (by decide) s_rank
  | r + 7, hr => exact zr_tabOut hO dL_act_26 (tgt := 246) (Or.inr (by rw [nI_rng (by omega)]; omega)) (by decide) s_tick
