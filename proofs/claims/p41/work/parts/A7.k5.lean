/-! The law: its tasks, looked at -/
theorem ct_p {f : Nat → Bool} {p : Nat} (h : f p = true) : nI (fb_ct f p) + 1 = nI (fb_ct f (p + 1)) := by
  rw [fb_ct_succ, if_pos h, nI_1]
theorem ct_n {f : Nat → Bool} {p : Nat} (h : ¬ f p = true) : nI (fb_ct f p) + 0 = nI (fb_ct f (p + 1)) := by
  rw [fb_ct_succ, if_neg h, Int32.add_zero]
  rfl
set_option maxRecDepth 100000 in
theorem tk_on {l : Launch} {G : zGm} {X : zCx} {D bc bs N x n K Bd t : Nat} {ly : zLy} {τ : zTu} {σ A B M : zSg} {s3 : Int32} {l1 l6 : Option Value} (H : zLw G X l D cL_areTasksRight 7 ly x) (h : zJT n K Bd A M) (ht : t < n) (next : ∀ l5, zV G X 7 bc bs (fun z => N ≤ z) ly τ (st2 σ x A B) 59 [some (.ref x), l1, some (.int (nI t)), some (.int s3), some (.int (nI (if M 41 t = 2 then 1 else 0))), l5, l6, none, none] []) : ∀ j p, p + j = ix (M 0 6) → zV G X 7 bc bs (fun z => N ≤ z) ly τ (st2 σ x A B) 24 [some (.ref x), l1, some (.int (nI t)), some (.int s3), some (.int (nI (fb_ct (fun p => decide (M 68 p = nI t)) p))), some (.int (nI p)), l6, none, none] [] := by
  have hO := H.1.1
  have hn := zJT_n h
  have hP := zmW_p3 (zI_W h.1.1)
  have hp0 := zmW_p (zI_W h.1.1)
  intro j
  induction j with
  | zero =>
    intro p hp
    refine zr_iload_5 hO dL_areTasksRight_24 ?_
    refine zr_aload_0 hO dL_areTasksRight_26 ?_
    refine zV_pc (pc' := 27) rfl ?_
    refine a_processors H h (Nat.le_of_ble_eq_true rfl) dL_areTasksRight_27 ?_
    refine zV_pc (pc' := 30) rfl ?_
    refine zr_icmp_ge (tgt := 59) hO dL_areTasksRight_30 (by decide) (fun c => ?_) (fun c => ?_)
    · clear c
      have e := k_on h ht
      rw [← hp, Nat.add_zero] at e
      rw [e]
      exact next _
    · exact absurd ((lt_ix hp0 (by omega)).mp c) (by omega)
  | succ j ih =>
    intro p hp
    refine zr_iload_5 hO dL_areTasksRight_24 ?_
    refine zr_aload_0 hO dL_areTasksRight_26 ?_
    refine zV_pc (pc' := 27) rfl ?_
    refine a_processors H h (Nat.le_of_ble_eq_true rfl) dL_areTasksRight_27 ?_
    refine zV_pc (pc' := 30) rfl ?_
    refine zr_icmp_ge (tgt := 59) hO dL_areTasksRight_30 (by decide) (fun c => ?_) (fun c => ?_)
    · exact absurd ((lt_ix hp0 (by omega)).mpr (by omega)) c
    · clear c
      refine zV_pc (pc' := 33) rfl ?_
      refine zr_iload_4 hO dL_areTasksRight_33 ?_
      refine zr_aload_0 hO dL_areTasksRight_35 ?_
      refine zr_iload_5 hO dL_areTasksRight_36 ?_
      refine zV_pc (pc' := 38) rfl ?_
      refine a_on H h (p := p) (by omega) (Nat.le_of_ble_eq_true rfl) dL_areTasksRight_38 ?_
      refine zV_pc (pc' := 41) rfl ?_
      refine zr_iload_2 hO dL_areTasksRight_41 ?_
      refine zV_pc (pc' := 42) rfl ?_
      refine zr_icmp_ne (tgt := 49) hO dL_areTasksRight_42 (by decide) (fun c => ?_) (fun c => ?_)
      · have c9 : ¬ decide (M 68 p = nI t) = true := fun e => c (of_decide_eq_true e)
        refine zV_pc (pc' := 49) rfl ?_
        refine zr_iconst (v := 0) hO dL_areTasksRight_49 (by decide) ?_
        refine zr_iadd hO dL_areTasksRight_50 ?_
        refine zV_pc (pc' := 51) rfl ?_
        rw [ct_n (f := (fun p => decide (M 68 p = nI t))) c9]
        refine zr_istore_4 hO dL_areTasksRight_51 (by decide) rfl ?_
        refine zr_iinc_5 (v := 1) hO dL_areTasksRight_53 (by decide) (by decide) rfl ?_
        refine zr_goto (tgt := 24) hO dL_areTasksRight_56 (by decide) ?_
        rw [nI_1]
        exact ih (p + 1) (by omega)
      · have c9 : decide (M 68 p = nI t) = true := decide_eq_true c
        refine zV_pc (pc' := 45) rfl ?_
        refine zr_iconst (v := 1) hO dL_areTasksRight_45 (by decide) ?_
        refine zr_goto (tgt := 50) hO dL_areTasksRight_46 (by decide) ?_
        refine zr_iadd hO dL_areTasksRight_50 ?_
        refine zV_pc (pc' := 51) rfl ?_
        rw [ct_p (f := (fun p => decide (M 68 p = nI t))) c9]
        refine zr_istore_4 hO dL_areTasksRight_51 (by decide) rfl ?_
        refine zr_iinc_5 (v := 1) hO dL_areTasksRight_53 (by decide) (by decide) rfl ?_
        refine zr_goto (tgt := 24) hO dL_areTasksRight_56 (by decide) ?_
        rw [nI_1]
        exact ih (p + 1) (by omega)
set_option maxRecDepth 100000 in
theorem tk_at {l : Launch} {G : zGm} {X : zCx} {D bc bs N x n K Bd t : Nat} {ly : zLy} {τ : zTu} {σ A B M : zSg} {s4 : Int32} {l1 l3 : Option Value} (H : zLw G X l D cL_areTasksRight 7 ly x) (h : zJT n K Bd A M) (ht : t < n) (next : ∀ l6, zV G X 7 bc bs (fun z => N ≤ z) ly τ (st2 σ x A B) 107 [some (.ref x), l1, some (.int (nI t)), l3, some (.int s4), some (.int (nI ((if M 41 t = 4 then 1 else 0) + 8 * (if M 41 t = 5 then 1 else 0)))), l6, none, none] []) : ∀ j q, q + j = 6 → zV G X 7 bc bs (fun z => N ≤ z) ly τ (st2 σ x A B) 65 [some (.ref x), l1, some (.int (nI t)), l3, some (.int s4), some (.int (nI (fb_ct (fun q => decide (M 41 t = 4 ∧ M 49 t = nI q)) q + 8 * fb_ct (fun q => decide (M 41 t = 5 ∧ M 49 t = nI q)) q))), some (.int (nI q)), none, none] [] := by
  have hO := H.1.1
  have hn := zJT_n h
  intro j
  induction j with
  | zero =>
    intro q hq
    refine zr_iload_6 hO dL_areTasksRight_65 ?_
    refine zr_bipush (v := 6) hO dL_areTasksRight_67 (by decide) ?_
    refine zV_pc (pc' := 69) rfl ?_
    refine zr_icmp_ge (tgt := 107) hO dL_areTasksRight_69 (by decide) (fun c => ?_) (fun c => ?_)
    · clear c
      have : q = 6 := by omega
      subst this
      have e4 := k_at h (t := t) 4
      have e5 := k_at h (t := t) 5
      rw [e4, e5]
      exact next _
    · rw [i_lt, nI_rng (by omega), show (6 : Int32).toInt = 6 from rfl] at c
      omega
  | succ j ih =>
    intro q hq
    refine zr_iload_6 hO dL_areTasksRight_65 ?_
    refine zr_bipush (v := 6) hO dL_areTasksRight_67 (by decide) ?_
    refine zV_pc (pc' := 69) rfl ?_
    refine zr_icmp_ge (tgt := 107) hO dL_areTasksRight_69 (by decide) (fun c => ?_) (fun c => ?_)
    · rw [i_lt, nI_rng (by omega), show (6 : Int32).toInt = 6 from rfl] at c
      omega
    · clear c
      refine zV_pc (pc' := 72) rfl ?_
      refine zr_iload_5 hO dL_areTasksRight_72 ?_
      refine zr_aload_0 hO dL_areTasksRight_74 ?_
      refine zr_iload_6 hO dL_areTasksRight_75 ?_
      refine zV_pc (pc' := 77) rfl ?_
      refine a_blocked H h (q := q) (by omega) (Nat.le_of_ble_eq_true rfl) dL_areTasksRight_77 ?_
      refine zV_pc (pc' := 80) rfl ?_
      refine zr_iload_2 hO dL_areTasksRight_80 ?_
      refine zr_ishr hO dL_areTasksRight_81 ?_
      refine zr_iconst (v := 1) hO dL_areTasksRight_82 (by decide) ?_
      refine zr_iand hO dL_areTasksRight_83 ?_
      refine zV_pc (pc' := 84) rfl ?_
      rw [k_wait h 4 ht]
      refine zr_bipush (v := 8) hO dL_areTasksRight_84 (by decide) ?_
      refine zr_aload_0 hO dL_areTasksRight_86 ?_
      refine zr_iload_6 hO dL_areTasksRight_87 ?_
      refine zV_pc (pc' := 89) rfl ?_
      refine a_awaiting H h (q := q) (by omega) (Nat.le_of_ble_eq_true rfl) dL_areTasksRight_89 ?_
      refine zV_pc (pc' := 92) rfl ?_
      refine zr_iload_2 hO dL_areTasksRight_92 ?_
      refine zr_ishr hO dL_areTasksRight_93 ?_
      refine zr_iconst (v := 1) hO dL_areTasksRight_94 (by decide) ?_
      refine zr_iand hO dL_areTasksRight_95 ?_
      refine zV_pc (pc' := 96) rfl ?_
      rw [k_wait h 5 ht]
      refine zr_imul hO dL_areTasksRight_96 ?_
      refine zr_iadd hO dL_areTasksRight_97 ?_
      refine zr_iadd hO dL_areTasksRight_98 ?_
      refine zV_pc (pc' := 99) rfl ?_
      rw [at_step]
      refine zr_istore_5 hO dL_areTasksRight_99 (by decide) rfl ?_
      refine zr_iinc_6 (v := 1) hO dL_areTasksRight_101 (by decide) (by decide) rfl ?_
      refine zr_goto (tgt := 65) hO dL_areTasksRight_104 (by decide) ?_
      rw [nI_1]
      exact ih (q + 1) (by omega)
set_option maxRecDepth 100000 in
theorem tk_307 {l : Launch} {G : zGm} {X : zCx} {D bc bs N x n K Bd t : Nat} {ly : zLy} {τ : zTu} {σ A B M : zSg} {r9 : Int32} {l4 l5 l6 : Option Value} (H : zLw G X l D cL_areTasksRight 7 ly x) (h : zJT n K Bd A M) (ht : t < n) (next : zV G X 7 bc bs (fun z => N ≤ z) ly τ (st2 σ x A B) 4 [some (.ref x), some (.int r9), some (.int (nI (t + 1))), none, none, none, none, none, none] []) : zV G X 7 bc bs (fun z => N ≤ z) ly τ (st2 σ x A B) 307 [some (.ref x), some (.int r9), some (.int (nI t)), some (.int (M 41 t)), l4, l5, l6, none, none] [] := by
  have hO := H.1.1
  have c329 : zV G X 7 bc bs (fun z => N ≤ z) ly τ (st2 σ x A B) 329 [some (.ref x), some (.int r9), some (.int (nI t)), some (.int (M 41 t)), l4, l5, l6, none, none] [] := by
    refine zr_iinc_2 (v := 1) hO dL_areTasksRight_329 (by decide) (by decide) rfl ?_
    refine zr_goto (tgt := 4) hO dL_areTasksRight_332 (by decide) ?_
    rw [nI_1]
    refine zV_d3 ?_
    refine zV_d4 ?_
    refine zV_d5 ?_
    refine zV_d6 ?_
    exact next
  refine zr_iload_3 hO dL_areTasksRight_307 ?_
  refine zV_pc (pc' := 308) rfl ?_
  refine zr_if_ne (tgt := 329) hO dL_areTasksRight_308 (by decide) (fun c => ?_) (fun c => ?_)
  · exact c329
  · have c0 : M 41 t = 0 := c
    refine zV_pc (pc' := 311) rfl ?_
    refine zr_aload_0 hO dL_areTasksRight_311 ?_
    refine zr_iload_2 hO dL_areTasksRight_312 ?_
    refine zr_iconst (v := 0) hO dL_areTasksRight_313 (by decide) ?_
    refine zV_pc (pc' := 314) rfl ?_
    refine a_told H h (t := t) ht (w := 0) (by decide) (Nat.le_of_ble_eq_true rfl) dL_areTasksRight_314 ?_
    refine zV_pc (pc' := 317) rfl ?_
    refine zr_aload_0 hO dL_areTasksRight_317 ?_
    refine zr_iload_2 hO dL_areTasksRight_318 ?_
    refine zr_iconst (v := 1) hO dL_areTasksRight_319 (by decide) ?_
    refine zV_pc (pc' := 320) rfl ?_
    refine a_told H h (t := t) ht (w := 1) (by decide) (Nat.le_of_ble_eq_true rfl) dL_areTasksRight_320 ?_
    refine zV_pc (pc' := 323) rfl ?_
    refine zr_iadd hO dL_areTasksRight_323 ?_
    refine zV_pc (pc' := 324) rfl ?_
    rw [k_new h ht c0]
    refine zr_if_le (tgt := 329) hO dL_areTasksRight_324 (by decide) (fun c => ?_) (fun c => ?_)
    · exact c329
    · exact absurd c (by decide)
set_option maxRecDepth 100000 in
theorem tk_263 {l : Launch} {G : zGm} {X : zCx} {D bc bs N x n K Bd t : Nat} {ly : zLy} {τ : zTu} {σ A B M : zSg} {r9 : Int32} {l4 l5 l6 : Option Value} (H : zLw G X l D cL_areTasksRight 7 ly x) (h : zJT n K Bd A M) (hU : zU B) (hK : K + 240 ≤ 190000) (ht : t < n) (next : ∀ B', zU B' → zV G X 7 bc bs (fun z => N ≤ z) ly τ (st2 σ x A B') 4 [some (.ref x), some (.int r9), some (.int (nI (t + 1))), none, none, none, none, none, none] []) : zV G X 7 (bc + 1) (bs + 6) (fun z => N ≤ z) ly τ (st2 σ x A B) 263 [some (.ref x), some (.int r9), some (.int (nI t)), some (.int (M 41 t)), l4, l5, l6, none, none] [] := by
  have hO := H.1.1
  refine zr_aload_0 hO dL_areTasksRight_263 ?_
  refine zr_iload_2 hO dL_areTasksRight_264 ?_
  refine zr_iconst (v := 0) hO dL_areTasksRight_265 (by decide) ?_
  refine zV_pc (pc' := 266) rfl ?_
  refine a_told H h (t := t) ht (w := 0) (by decide) (Nat.le_of_ble_eq_true rfl) dL_areTasksRight_266 ?_
  refine zV_pc (pc' := 269) rfl ?_
  refine zr_aload_0 hO dL_areTasksRight_269 ?_
  refine zr_iload_2 hO dL_areTasksRight_270 ?_
  refine zr_iconst (v := 1) hO dL_areTasksRight_271 (by decide) ?_
  refine zV_pc (pc' := 272) rfl ?_
  refine a_told H h (t := t) ht (w := 1) (by decide) (Nat.le_of_ble_eq_true rfl) dL_areTasksRight_272 ?_
  refine zV_pc (pc' := 275) rfl ?_
  refine zr_iadd hO dL_areTasksRight_275 ?_
  refine zr_aload_0 hO dL_areTasksRight_276 ?_
  refine zr_iload_2 hO dL_areTasksRight_277 ?_
  refine zr_iconst (v := 2) hO dL_areTasksRight_278 (by decide) ?_
  refine zV_pc (pc' := 279) rfl ?_
  refine a_told H h (t := t) ht (w := 2) (by decide) (Nat.le_of_ble_eq_true rfl) dL_areTasksRight_279 ?_
  refine zV_pc (pc' := 282) rfl ?_
  refine zr_iadd hO dL_areTasksRight_282 ?_
  refine zr_aload_0 hO dL_areTasksRight_283 ?_
  refine zV_pc (pc' := 284) rfl ?_
  refine a_clock H h (Nat.le_of_ble_eq_true rfl) dL_areTasksRight_284 ?_
  refine zV_pc (pc' := 287) rfl ?_
  refine zr_icmp_le (tgt := 292) hO dL_areTasksRight_287 (by decide) (fun c => ?_) (fun c => ?_)
  rotate_left
  · exact absurd c (k_sum h (by omega) ht)
  clear c
  refine zr_iload_3 hO dL_areTasksRight_292 ?_
  refine zr_bipush (v := 6) hO dL_areTasksRight_293 (by decide) ?_
  refine zV_pc (pc' := 295) rfl ?_
  refine zr_icmp_ne (tgt := 307) hO dL_areTasksRight_295 (by decide) (fun c => ?_) (fun c => ?_)
  · exact zV_b (by omega) (by omega) (tk_307 H h ht (next B hU))
  · have c6 : M 41 t = 6 := c
    refine zV_pc (pc' := 298) rfl ?_
    refine zr_aload_0 hO dL_areTasksRight_298 ?_
    refine zr_iload_2 hO dL_areTasksRight_299 ?_
    refine zr_iconst (v := 1) hO dL_areTasksRight_300 (by decide) ?_
    refine zV_pc (pc' := 301) rfl ?_
    refine a_doneIn H h ht c6 hK hU (by omega) (by omega) (Nat.le_of_ble_eq_true rfl) dL_areTasksRight_301 (fun B' hU' => ?_)
    refine zV_pc (pc' := 304) rfl ?_
    refine zr_if_ne (tgt := 327) hO dL_areTasksRight_304 (by decide) (fun c => ?_) (fun c => ?_)
    · exact absurd rfl c
    · exact zV_b (by omega) (by omega) (tk_307 H h ht (next B' hU'))
set_option maxRecDepth 100000 in
theorem tk_204 {l : Launch} {G : zGm} {X : zCx} {D bc bs N x n K Bd t : Nat} {ly : zLy} {τ : zTu} {σ A B M : zSg} {r9 : Int32} {l4 l5 l6 : Option Value} (H : zLw G X l D cL_areTasksRight 7 ly x) (h : zJT n K Bd A M) (hU : zU B) (hK : K + 240 ≤ 190000) (ht : t < n) (next : ∀ B', zU B' → zV G X 7 bc bs (fun z => N ≤ z) ly τ (st2 σ x A B') 4 [some (.ref x), some (.int r9), some (.int (nI (t + 1))), none, none, none, none, none, none] []) : zV G X 7 (bc + 1) (bs + 6) (fun z => N ≤ z) ly τ (st2 σ x A B) 204 [some (.ref x), some (.int r9), some (.int (nI t)), some (.int (M 41 t)), l4, l5, l6, none, none] [] := by
  have hO := H.1.1
  obtain ⟨kf, kd⟩ := k_first h ht
  have n1 : ¬ (1 : Int32) = 0 := by decide
  have n0 : ¬ (0 : Int32) = 1 := by decide
  have c235 : zV G X 7 (bc + 1) (bs + 6) (fun z => N ≤ z) ly τ (st2 σ x A B) 235 [some (.ref x), some (.int r9), some (.int (nI t)), some (.int (M 41 t)), l4, l5, l6, none, none] [] := by
    refine zr_aload_0 hO dL_areTasksRight_235 ?_
    refine zr_iload_2 hO dL_areTasksRight_236 ?_
    refine zr_iconst (v := 4) hO dL_areTasksRight_237 (by decide) ?_
    refine zV_pc (pc' := 238) rfl ?_
    refine a_told H h (t := t) ht (w := 4) (by decide) (Nat.le_of_ble_eq_true rfl) dL_areTasksRight_238 ?_
    refine zV_pc (pc' := 241) rfl ?_
    refine zr_if_lt (tgt := 248) hO dL_areTasksRight_241 (by decide) (fun c => ?_) (fun c => ?_)
    · have c4 : M (52 + t) 4 < 0 := c
      refine zV_pc (pc' := 248) rfl ?_
      refine zr_iconst (v := 0) hO dL_areTasksRight_248 (by decide) ?_
      refine zr_iload_3 hO dL_areTasksRight_249 ?_
      refine zr_bipush (v := 6) hO dL_areTasksRight_250 (by decide) ?_
      refine zV_pc (pc' := 252) rfl ?_
      refine zr_icmp_ne (tgt := 259) hO dL_areTasksRight_252 (by decide) (fun c => ?_) (fun c => ?_)
      · clear c
        refine zV_pc (pc' := 259) rfl ?_
        refine zr_iconst (v := 0) hO dL_areTasksRight_259 (by decide) ?_
        refine zV_pc (pc' := 260) rfl ?_
        refine zr_icmp_ne (tgt := 290) hO dL_areTasksRight_260 (by decide) (fun c => ?_) (fun c => ?_)
        · exact absurd rfl c
        · exact tk_263 H h hU hK ht next
      · exact absurd c4 (kd.mpr c)
    · have c4 : ¬ M (52 + t) 4 < 0 := c
      refine zV_pc (pc' := 244) rfl ?_
      refine zr_iconst (v := 1) hO dL_areTasksRight_244 (by decide) ?_
      refine zr_goto (tgt := 249) hO dL_areTasksRight_245 (by decide) ?_
      refine zr_iload_3 hO dL_areTasksRight_249 ?_
      refine zr_bipush (v := 6) hO dL_areTasksRight_250 (by decide) ?_
      refine zV_pc (pc' := 252) rfl ?_
      refine zr_icmp_ne (tgt := 259) hO dL_areTasksRight_252 (by decide) (fun c => ?_) (fun c => ?_)
      · exact absurd (kd.mp c4) c
      · clear c
        refine zV_pc (pc' := 255) rfl ?_
        refine zr_iconst (v := 1) hO dL_areTasksRight_255 (by decide) ?_
        refine zr_goto (tgt := 260) hO dL_areTasksRight_256 (by decide) ?_
        refine zr_icmp_ne (tgt := 290) hO dL_areTasksRight_260 (by decide) (fun c => ?_) (fun c => ?_)
        · exact absurd rfl c
        · exact tk_263 H h hU hK ht next
  refine zr_aload_0 hO dL_areTasksRight_204 ?_
  refine zr_iload_2 hO dL_areTasksRight_205 ?_
  refine zr_iconst (v := 0) hO dL_areTasksRight_206 (by decide) ?_
  refine zV_pc (pc' := 207) rfl ?_
  refine a_told H h (t := t) ht (w := 0) (by decide) (Nat.le_of_ble_eq_true rfl) dL_areTasksRight_207 ?_
  refine zV_pc (pc' := 210) rfl ?_
  refine zr_if_le (tgt := 217) hO dL_areTasksRight_210 (by decide) (fun c => ?_) (fun c => ?_)
  · have c0 : ¬ 0 < M (52 + t) 0 := c
    refine zV_pc (pc' := 217) rfl ?_
    refine zr_iconst (v := 0) hO dL_areTasksRight_217 (by decide) ?_
    refine zr_aload_0 hO dL_areTasksRight_218 ?_
    refine zr_iload_2 hO dL_areTasksRight_219 ?_
    refine zr_iconst (v := 3) hO dL_areTasksRight_220 (by decide) ?_
    refine zV_pc (pc' := 221) rfl ?_
    refine a_told H h (t := t) ht (w := 3) (by decide) (Nat.le_of_ble_eq_true rfl) dL_areTasksRight_221 ?_
    refine zV_pc (pc' := 224) rfl ?_
    refine zr_if_lt (tgt := 231) hO dL_areTasksRight_224 (by decide) (fun c => ?_) (fun c => ?_)
    · clear c
      refine zV_pc (pc' := 231) rfl ?_
      refine zr_iconst (v := 0) hO dL_areTasksRight_231 (by decide) ?_
      refine zV_pc (pc' := 232) rfl ?_
      refine zr_icmp_ne (tgt := 290) hO dL_areTasksRight_232 (by decide) (fun c => ?_) (fun c => ?_)
      · exact absurd rfl c
      · exact c235
    · exact absurd (kf.mpr c) c0
  · have c0 : 0 < M (52 + t) 0 := c
    refine zV_pc (pc' := 213) rfl ?_
    refine zr_iconst (v := 1) hO dL_areTasksRight_213 (by decide) ?_
    refine zr_goto (tgt := 218) hO dL_areTasksRight_214 (by decide) ?_
    refine zr_aload_0 hO dL_areTasksRight_218 ?_
    refine zr_iload_2 hO dL_areTasksRight_219 ?_
    refine zr_iconst (v := 3) hO dL_areTasksRight_220 (by decide) ?_
    refine zV_pc (pc' := 221) rfl ?_
    refine a_told H h (t := t) ht (w := 3) (by decide) (Nat.le_of_ble_eq_true rfl) dL_areTasksRight_221 ?_
    refine zV_pc (pc' := 224) rfl ?_
    refine zr_if_lt (tgt := 231) hO dL_areTasksRight_224 (by decide) (fun c => ?_) (fun c => ?_)
    · exact absurd c (kf.mp c0)
    · clear c
      refine zV_pc (pc' := 227) rfl ?_
      refine zr_iconst (v := 1) hO dL_areTasksRight_227 (by decide) ?_
      refine zr_goto (tgt := 232) hO dL_areTasksRight_228 (by decide) ?_
      refine zr_icmp_ne (tgt := 290) hO dL_areTasksRight_232 (by decide) (fun c => ?_) (fun c => ?_)
      · exact absurd rfl c
      · exact c235
set_option maxRecDepth 100000 in
theorem tk_154 {l : Launch} {G : zGm} {X : zCx} {D bc bs N x n K Bd t : Nat} {ly : zLy} {τ : zTu} {σ A B M : zSg} {r9 : Int32} {l4 l5 l6 : Option Value} (H : zLw G X l D cL_areTasksRight 7 ly x) (h : zJT n K Bd A M) (hU : zU B) (hK : K + 240 ≤ 190000) (ht : t < n) (next : ∀ A' B', zJT n K Bd A' M → zU B' → zV G X 7 bc bs (fun z => N ≤ z) ly τ (st2 σ x A' B') 4 [some (.ref x), some (.int r9), some (.int (nI (t + 1))), none, none, none, none, none, none] []) : zV G X 7 (bc + 1) (bs + 6) (fun z => N ≤ z) ly τ (st2 σ x A B) 154 [some (.ref x), some (.int r9), some (.int (nI t)), some (.int (M 41 t)), l4, l5, l6, none, none] [] := by
  have hO := H.1.1
  refine zr_aload_0 hO dL_areTasksRight_154 ?_
  refine zr_iload_2 hO dL_areTasksRight_155 ?_
  refine zV_pc (pc' := 156) rfl ?_
  refine a_lentKey H h (t := t) ht (Nat.le_of_ble_eq_true rfl) dL_areTasksRight_156 (fun A1 h1 => ?_)
  refine zV_pc (pc' := 159) rfl ?_
  have c204 : zV G X 7 (bc + 1) (bs + 6) (fun z => N ≤ z) ly τ (st2 σ x A1 B) 204 [some (.ref x), some (.int r9), some (.int (nI t)), some (.int (M 41 t)), l4, l5, l6, none, none] [] := tk_204 H h1 hU hK ht (fun B' hU' => next A1 B' h1 hU')
  refine zr_aload_0 hO dL_areTasksRight_159 ?_
  refine zr_iload_2 hO dL_areTasksRight_160 ?_
  refine zV_pc (pc' := 161) rfl ?_
  refine a_keyOf H h1 (t := t) ht (Nat.le_of_ble_eq_true rfl) dL_areTasksRight_161 ?_
  refine zV_pc (pc' := 164) rfl ?_
  refine zr_icmp_gt (tgt := 202) hO dL_areTasksRight_164 (by decide) (fun c => ?_) (fun c => ?_)
  · exact absurd c (k_lent h ht)
  clear c
  refine zV_pc (pc' := 167) rfl ?_
  refine zr_aload_0 hO dL_areTasksRight_167 ?_
  refine zr_iload_2 hO dL_areTasksRight_168 ?_
  refine zV_pc (pc' := 169) rfl ?_
  refine a_levelOf H h1 (t := t) ht (Nat.le_of_ble_eq_true rfl) dL_areTasksRight_169 ?_
  refine zV_pc (pc' := 172) rfl ?_
  refine zr_if_lt (tgt := 202) hO dL_areTasksRight_172 (by decide) (fun c => ?_) (fun c => ?_)
  · exact absurd c (k_lev h t).1
  clear c
  refine zV_pc (pc' := 175) rfl ?_
  refine zr_aload_0 hO dL_areTasksRight_175 ?_
  refine zr_iload_2 hO dL_areTasksRight_176 ?_
  refine zV_pc (pc' := 177) rfl ?_
  refine a_levelOf H h1 (t := t) ht (Nat.le_of_ble_eq_true rfl) dL_areTasksRight_177 ?_
  refine zV_pc (pc' := 180) rfl ?_
  refine zr_iconst (v := 3) hO dL_areTasksRight_180 (by decide) ?_
  refine zV_pc (pc' := 181) rfl ?_
  refine zr_icmp_gt (tgt := 202) hO dL_areTasksRight_181 (by decide) (fun c => ?_) (fun c => ?_)
  · exact absurd c (k_lev h t).2
  clear c
  refine zV_pc (pc' := 184) rfl ?_
  refine zr_iload_3 hO dL_areTasksRight_184 ?_
  refine zV_pc (pc' := 185) rfl ?_
  refine zr_if_le (tgt := 204) hO dL_areTasksRight_185 (by decide) (fun c => ?_) (fun c => ?_)
  · exact c204
  · have s0 : 0 < M 41 t := c
    refine zV_pc (pc' := 188) rfl ?_
    refine zr_iload_3 hO dL_areTasksRight_188 ?_
    refine zr_bipush (v := 6) hO dL_areTasksRight_189 (by decide) ?_
    refine zV_pc (pc' := 191) rfl ?_
    refine zr_icmp_ge (tgt := 204) hO dL_areTasksRight_191 (by decide) (fun c => ?_) (fun c => ?_)
    · exact c204
    · have s6 : M 41 t < 6 := c
      refine zV_pc (pc' := 194) rfl ?_
      refine zr_aload_0 hO dL_areTasksRight_194 ?_
      refine zr_iload_2 hO dL_areTasksRight_195 ?_
      refine zV_pc (pc' := 196) rfl ?_
      refine a_standOf H h1 (t := t) ht (Nat.le_of_ble_eq_true rfl) dL_areTasksRight_196 ?_
      refine zV_pc (pc' := 199) rfl ?_
      refine zr_if_ge (tgt := 204) hO dL_areTasksRight_199 (by decide) (fun c => ?_) (fun c => ?_)
      · exact c204
      · exact absurd c (k_stand h ht s0 s6)
set_option maxRecDepth 100000 in
theorem tk_one {l : Launch} {G : zGm} {X : zCx} {D bc bs N x n K Bd t : Nat} {ly : zLy} {τ : zTu} {σ A B M : zSg} (H : zLw G X l D cL_areTasksRight 7 ly x) (h : zJT n K Bd A M) (hU : zU B) (hK : K + 240 ≤ 190000) (ht : t < n) (next : ∀ A' B', zJT n K Bd A' M → zU B' → zV G X 7 bc bs (fun z => N ≤ z) ly τ (st2 σ x A' B') 4 [some (.ref x), some (.int (nI (fb_ct (fun t => decide (M 41 t = 2)) (t + 1)))), some (.int (nI (t + 1))), none, none, none, none, none, none] []) : zV G X 7 (bc + 1) (bs + 6) (fun z => N ≤ z) ly τ (st2 σ x A B) 12 [some (.ref x), some (.int (nI (fb_ct (fun t => decide (M 41 t = 2)) (t)))), some (.int (nI (t))), none, none, none, none, none, none] [] := by
  have hO := H.1.1
  refine zr_aload_0 hO dL_areTasksRight_12 ?_
  refine zr_iload_2 hO dL_areTasksRight_13 ?_
  refine zV_pc (pc' := 14) rfl ?_
  refine a_stateOf H h (t := t) ht (Nat.le_of_ble_eq_true rfl) dL_areTasksRight_14 ?_
  refine zV_pc (pc' := 17) rfl ?_
  refine zr_istore_3 hO dL_areTasksRight_17 (by decide) rfl ?_
  refine zr_iconst (v := 0) hO dL_areTasksRight_18 (by decide) ?_
  refine zr_istore_4 hO dL_areTasksRight_19 (by decide) rfl ?_
  refine zr_iconst (v := 0) hO dL_areTasksRight_21 (by decide) ?_
  refine zr_istore_5 hO dL_areTasksRight_22 (by decide) rfl ?_
  refine zV_pc (pc' := 24) rfl ?_
  refine tk_on H h ht (fun l5 => ?_) (ix (M 0 6)) 0 (Nat.zero_add _)
  refine zr_iconst (v := 0) hO dL_areTasksRight_59 (by decide) ?_
  refine zr_istore_5 hO dL_areTasksRight_60 (by decide) rfl ?_
  refine zr_iconst (v := 0) hO dL_areTasksRight_62 (by decide) ?_
  refine zr_istore_6 hO dL_areTasksRight_63 (by decide) rfl ?_
  refine zV_pc (pc' := 65) rfl ?_
  refine tk_at H h ht (fun l6 => ?_) 6 0 (by decide)
  have n1 : ¬ nI 1 = 0 := by decide
  have c149 : ∀ l5, zV G X 7 (bc + 1) (bs + 6) (fun z => N ≤ z) ly τ (st2 σ x A B) 149 [some (.ref x), some (.int (nI (fb_ct (fun t => decide (M 41 t = 2)) t))), some (.int (nI t)), some (.int (M 41 t)), some (.int (nI (if M 41 t = 2 then 1 else 0))), l5, l6, none, none] [] := by
    intro l5
    refine zr_iload_1 hO dL_areTasksRight_149 ?_
    refine zr_iload_4 hO dL_areTasksRight_150 ?_
    refine zr_iadd hO dL_areTasksRight_152 ?_
    refine zV_pc (pc' := 153) rfl ?_
    have e : nI (fb_ct (fun t => decide (M 41 t = 2)) t) + nI (if M 41 t = 2 then 1 else 0) = nI (fb_ct (fun t => decide (M 41 t = 2)) (t + 1)) := by
      rw [nI_pl, fb_ct_succ]
      by_cases g : M 41 t = 2
      · rw [if_pos g, if_pos (decide_eq_true g)]
      · rw [if_neg g, if_neg (fun e => g (of_decide_eq_true e))]
    rw [e]
    refine zr_istore_1 hO dL_areTasksRight_153 (by decide) rfl ?_
    refine zV_pc (pc' := 154) rfl ?_
    exact tk_154 H h hU hK ht next
  have c122 : zV G X 7 (bc + 1) (bs + 6) (fun z => N ≤ z) ly τ (st2 σ x A B) 122 [some (.ref x), some (.int (nI (fb_ct (fun t => decide (M 41 t = 2)) t))), some (.int (nI t)), some (.int (M 41 t)), some (.int (nI (if M 41 t = 2 then 1 else 0))), some (.int (nI ((if M 41 t = 4 then 1 else 0) + 8 * (if M 41 t = 5 then 1 else 0)))), l6, none, none] [] := by
    refine zr_iload_5 hO dL_areTasksRight_122 ?_
    refine zr_iload_3 hO dL_areTasksRight_124 ?_
    refine zr_iconst (v := 4) hO dL_areTasksRight_125 (by decide) ?_
    refine zV_pc (pc' := 126) rfl ?_
    refine zr_icmp_ne (tgt := 133) hO dL_areTasksRight_126 (by decide) (fun c => ?_) (fun c => ?_)
    · have s4 : ¬ M 41 t = 4 := c
      refine zV_pc (pc' := 133) rfl ?_
      refine zr_iload_3 hO dL_areTasksRight_133 ?_
      refine zr_iconst (v := 5) hO dL_areTasksRight_134 (by decide) ?_
      refine zV_pc (pc' := 135) rfl ?_
      refine zr_icmp_ne (tgt := 143) hO dL_areTasksRight_135 (by decide) (fun c => ?_) (fun c => ?_)
      · have s5 : ¬ M 41 t = 5 := c
        refine zV_pc (pc' := 143) rfl ?_
        refine zr_iconst (v := 0) hO dL_areTasksRight_143 (by decide) ?_
        refine zV_pc (pc' := 144) rfl ?_
        rw [if_neg s4, if_neg s5]
        refine zr_icmp_eq (tgt := 149) hO dL_areTasksRight_144 (by decide) (fun c => ?_) (fun c => ?_)
        · exact c149 _
        · exact absurd rfl c
      · have s5 : M 41 t = 5 := c
        refine zV_pc (pc' := 138) rfl ?_
        refine zr_bipush (v := 8) hO dL_areTasksRight_138 (by decide) ?_
        refine zr_goto (tgt := 144) hO dL_areTasksRight_140 (by decide) ?_
        rw [if_neg s4, if_pos s5]
        refine zr_icmp_eq (tgt := 149) hO dL_areTasksRight_144 (by decide) (fun c => ?_) (fun c => ?_)
        · exact c149 _
        · exact absurd rfl c
    · have s4 : M 41 t = 4 := c
      have s5 : ¬ M 41 t = 5 := by rw [s4]; decide
      refine zV_pc (pc' := 129) rfl ?_
      refine zr_iconst (v := 1) hO dL_areTasksRight_129 (by decide) ?_
      refine zr_goto (tgt := 144) hO dL_areTasksRight_130 (by decide) ?_
      rw [if_pos s4, if_neg s5]
      refine zr_icmp_eq (tgt := 149) hO dL_areTasksRight_144 (by decide) (fun c => ?_) (fun c => ?_)
      · exact c149 _
      · exact absurd rfl c
  refine zr_iload_4 hO dL_areTasksRight_107 ?_
  refine zr_iload_3 hO dL_areTasksRight_109 ?_
  refine zr_iconst (v := 2) hO dL_areTasksRight_110 (by decide) ?_
  refine zV_pc (pc' := 111) rfl ?_
  refine zr_icmp_ne (tgt := 118) hO dL_areTasksRight_111 (by decide) (fun c => ?_) (fun c => ?_)
  · have s2 : ¬ M 41 t = 2 := c
    refine zV_pc (pc' := 118) rfl ?_
    refine zr_iconst (v := 0) hO dL_areTasksRight_118 (by decide) ?_
    refine zV_pc (pc' := 119) rfl ?_
    refine zr_icmp_ne (tgt := 147) hO dL_areTasksRight_119 (by decide) (fun c => ?_) (fun c => ?_)
    · rw [if_neg s2] at c
      exact absurd rfl c
    · exact c122
  · have s2 : M 41 t = 2 := c
    refine zV_pc (pc' := 114) rfl ?_
    refine zr_iconst (v := 1) hO dL_areTasksRight_114 (by decide) ?_
    refine zr_goto (tgt := 119) hO dL_areTasksRight_115 (by decide) ?_
    refine zr_icmp_ne (tgt := 147) hO dL_areTasksRight_119 (by decide) (fun c => ?_) (fun c => ?_)
    · rw [if_pos s2] at c
      exact absurd rfl c
    · exact c122
set_option maxRecDepth 100000 in
theorem tk_end {l : Launch} {G : zGm} {X : zCx} {D bc bs N x n K Bd : Nat} {ly : zLy} {τ : zTu} {σ A B M : zSg} {post : zPost} {l4 l5 l6 : Option Value} (H : zLw G X l D cL_areTasksRight 7 ly x) (h : zJT n K Bd A M) (next : ∀ ls, zV G X 7 bc bs (fun z => N ≤ z) ly τ (st2 σ x A B) 374 ls []) : ∀ j p, p + j = ix (M 0 6) → zV G X 7 bc bs (fun z => N ≤ z) ly τ (st2 σ x A B) 339 [some (.ref x), some (.int (nI (fb_ct (fun t => decide (M 41 t = 2)) n))), some (.int (nI (fb_ct (fun p => decide (¬ M 68 p = -1)) p))), some (.int (nI p)), l4, l5, l6, none, none] [] := by
  have hO := H.1.1
  have hn := zJT_n h
  have hP := zmW_p3 (zI_W h.1.1)
  have hp0 := zmW_p (zI_W h.1.1)
  intro j
  induction j with
  | zero =>
    intro p hp
    refine zr_iload_3 hO dL_areTasksRight_339 ?_
    refine zr_aload_0 hO dL_areTasksRight_340 ?_
    refine zV_pc (pc' := 341) rfl ?_
    refine a_processors H h (Nat.le_of_ble_eq_true rfl) dL_areTasksRight_341 ?_
    refine zV_pc (pc' := 344) rfl ?_
    refine zr_icmp_ge (tgt := 369) hO dL_areTasksRight_344 (by decide) (fun c => ?_) (fun c => ?_)
    · clear c
      refine zV_pc (pc' := 369) rfl ?_
      refine zr_iload_2 hO dL_areTasksRight_369 ?_
      refine zr_iload_1 hO dL_areTasksRight_370 ?_
      refine zV_pc (pc' := 371) rfl ?_
      refine zr_icmp_ne (tgt := 378) hO dL_areTasksRight_371 (by decide) (fun c => ?_) (fun c => ?_)
      · have e := k_run h
        rw [← hp, Nat.add_zero] at e
        exact absurd (by rw [e]) c
      · exact zV_pc (pc' := 374) rfl (next _)
    · exact absurd ((lt_ix hp0 (by omega)).mp c) (by omega)
  | succ j ih =>
    intro p hp
    refine zr_iload_3 hO dL_areTasksRight_339 ?_
    refine zr_aload_0 hO dL_areTasksRight_340 ?_
    refine zV_pc (pc' := 341) rfl ?_
    refine a_processors H h (Nat.le_of_ble_eq_true rfl) dL_areTasksRight_341 ?_
    refine zV_pc (pc' := 344) rfl ?_
    refine zr_icmp_ge (tgt := 369) hO dL_areTasksRight_344 (by decide) (fun c => ?_) (fun c => ?_)
    · exact absurd ((lt_ix hp0 (by omega)).mpr (by omega)) c
    · clear c
      have hm : zr1 (M 68 p) (-1) 15 := zI_W h.1.1 68 p
      have hm1 : -1 ≤ (M 68 p).toInt := hm.1
      refine zV_pc (pc' := 347) rfl ?_
      refine zr_iload_2 hO dL_areTasksRight_347 ?_
      refine zr_aload_0 hO dL_areTasksRight_348 ?_
      refine zr_iload_3 hO dL_areTasksRight_349 ?_
      refine zV_pc (pc' := 350) rfl ?_
      refine a_on H h (p := p) (by omega) (Nat.le_of_ble_eq_true rfl) dL_areTasksRight_350 ?_
      refine zV_pc (pc' := 353) rfl ?_
      refine zr_if_lt (tgt := 360) hO dL_areTasksRight_353 (by decide) (fun c => ?_) (fun c => ?_)
      · have c9 : ¬ decide (¬ M 68 p = -1) = true := fun e => of_decide_eq_true e (Int32.toInt_inj.mp (by rw [i_lt, show (0 : Int32).toInt = 0 from rfl] at c; rw [show (-1 : Int32).toInt = -1 from rfl]; omega))
        refine zV_pc (pc' := 360) rfl ?_
        refine zr_iconst (v := 0) hO dL_areTasksRight_360 (by decide) ?_
        refine zr_iadd hO dL_areTasksRight_361 ?_
        refine zV_pc (pc' := 362) rfl ?_
        rw [ct_n (f := (fun p => decide (¬ M 68 p = -1))) c9]
        refine zr_istore_2 hO dL_areTasksRight_362 (by decide) rfl ?_
        refine zr_iinc_3 (v := 1) hO dL_areTasksRight_363 (by decide) (by decide) rfl ?_
        refine zr_goto (tgt := 339) hO dL_areTasksRight_366 (by decide) ?_
        rw [nI_1]
        exact ih (p + 1) (by omega)
      · have c9 : decide (¬ M 68 p = -1) = true := decide_eq_true (fun e => c (by rw [e]; decide))
        refine zV_pc (pc' := 356) rfl ?_
        refine zr_iconst (v := 1) hO dL_areTasksRight_356 (by decide) ?_
        refine zr_goto (tgt := 361) hO dL_areTasksRight_357 (by decide) ?_
        refine zr_iadd hO dL_areTasksRight_361 ?_
        refine zV_pc (pc' := 362) rfl ?_
        rw [ct_p (f := (fun p => decide (¬ M 68 p = -1))) c9]
        refine zr_istore_2 hO dL_areTasksRight_362 (by decide) rfl ?_
        refine zr_iinc_3 (v := 1) hO dL_areTasksRight_363 (by decide) (by decide) rfl ?_
        refine zr_goto (tgt := 339) hO dL_areTasksRight_366 (by decide) ?_
        rw [nI_1]
        exact ih (p + 1) (by omega)
set_option maxRecDepth 100000 in
theorem e_L_areTasksRight {l : Launch} {G : zGm} {d N x n K Bd : Nat} {ly : zLy} {τ : zTu} {σ A B M : zSg} (htr : l.stackTraces = false) (hX : ly x = (6 + 5, 2, zcr6 (x + 1) (x + 96)) ∧ zC ly (x + 1) ∧ zC ly (x + 96)) (hLL : G.2.2.2.2.1 ≤ 260) (h : zJT n K Bd A M) (hU : zU B) (hK : K + 240 ≤ 190000) (hd : 11 ≤ d) : zEv l G d 16 96 (yL_areTasksRight, cL_areTasksRight, 7, some .boolean) [.ref x] (fun z => N ≤ z) ly τ (st2 σ x A B) (zPj N x ly τ σ (fun w A' B' => w = some (.int 1) ∧ zU B' ∧ zJT n K Bd A' M)) := by
  refine zEv_of (ls := [some (.ref x), none, none, none, none, none, none, none, none]) htr (by decide) (Nat.le_of_ble_eq_true rfl) rfl (fun X hO hE hN hRm hL hNm => ?_)
  have hO : zOk G X RL cL_areTasksRight 7 := hO
  have H : zLw G X l d cL_areTasksRight 7 ly x := ⟨⟨hO, hRm, hL, hd, htr⟩, hX, hLL⟩
  have hn := zJT_n h
  have loop : ∀ j t (A B : zSg), t + j = n → zJT n K Bd A M → zU B → zV G X 7 j (6 * j) (fun z => N ≤ z) ly τ (st2 σ x A B) 4 [some (.ref x), some (.int (nI (fb_ct (fun t => decide (M 41 t = 2)) (t)))), some (.int (nI (t))), none, none, none, none, none, none] [] := by
    intro j
    induction j with
    | zero =>
      intro t A B ht h hU
      refine zr_iload_2 hO dL_areTasksRight_4 ?_
      refine zr_aload_0 hO dL_areTasksRight_5 ?_
      refine zV_pc (pc' := 6) rfl ?_
      refine a_tasks H h (Nat.le_of_ble_eq_true rfl) dL_areTasksRight_6 ?_
      refine zV_pc (pc' := 9) rfl ?_
      refine zr_icmp_ge (tgt := 335) hO dL_areTasksRight_9 (by decide) (fun c => ?_) (fun c => ?_)
      · clear c
        refine zV_pc (pc' := 335) rfl ?_
        refine zr_iconst (v := 0) hO dL_areTasksRight_335 (by decide) ?_
        refine zr_istore_2 hO dL_areTasksRight_336 (by decide) rfl ?_
        refine zr_iconst (v := 0) hO dL_areTasksRight_337 (by decide) ?_
        refine zr_istore_3 hO dL_areTasksRight_338 (by decide) rfl ?_
        refine zV_pc (pc' := 339) rfl ?_
        have e : t = n := by omega
        subst e
        refine tk_end (post := fun _ _ _ _ _ => True) H h (fun ls => ?_) (ix (M 0 6)) 0 (Nat.zero_add _)
        refine zr_iconst (v := 1) hO dL_areTasksRight_374 (by decide) ?_
        refine zr_goto (tgt := 379) hO dL_areTasksRight_375 (by decide) ?_
        exact zr_zreturn hO hE (by decide) dL_areTasksRight_379 (fun z hz => ⟨_, A, B, rfl, ⟨rfl, hU, h⟩, rfl, hz, rfl, rfl⟩)
      · rw [i_lt, nI_rng (by omega), nI_rng (by omega)] at c
        omega
    | succ j ih =>
      intro t A B ht h hU
      refine zr_iload_2 hO dL_areTasksRight_4 ?_
      refine zr_aload_0 hO dL_areTasksRight_5 ?_
      refine zV_pc (pc' := 6) rfl ?_
      refine a_tasks H h (Nat.le_of_ble_eq_true rfl) dL_areTasksRight_6 ?_
      refine zV_pc (pc' := 9) rfl ?_
      refine zr_icmp_ge (tgt := 335) hO dL_areTasksRight_9 (by decide) (fun c => ?_) (fun c => ?_)
      · rw [i_lt, nI_rng (by omega), nI_rng (by omega)] at c
        omega
      · exact zV_pc (pc' := 12) rfl (tk_one H h hU hK (by omega) (fun A' B' h' hU' => ih (t + 1) A' B' (by omega) h' hU'))
  refine zr_iconst (v := 0) hO dL_areTasksRight_0 (by decide) ?_
  refine zr_istore_1 hO dL_areTasksRight_1 (by decide) rfl ?_
  refine zr_iconst (v := 0) hO dL_areTasksRight_2 (by decide) ?_
  refine zr_istore_2 hO dL_areTasksRight_3 (by decide) rfl ?_
  refine zV_pc (pc' := 4) rfl ?_
  exact zV_b (by omega) (by omega) (loop n 0 A B (by omega) h hU)
