/-! The law: its turns -/
set_option maxRecDepth 100000 in
set_option maxHeartbeats 1000000 in
theorem tu_setProcessors {G : zGm} {X : zCx} {l : Launch} {D x w n j i nn K : Nat} {ly : zLy} {τ : zTu} {σ A B M : zSg} (H : zLw G X l D ly x w n) (hn : zHead G X ly σ x w n j (i + 4)) (hQ : zQR nn K A M) (hU : zU B) (hK : K + 160 * (j + 1) + 240 ≤ 190000) (hi : i + 4 ≤ G.2.2.2.2.1) : zV G X 9 (300 * (j + 1)) (2500 * (j + 1)) (fun z => n ≤ z) ly τ (st3 σ x A B M) 204 [some (.ref G.2.2.2.1), some (.ref x), some (.ref (x + 191)), some (.ref w), some (.int (nI i)), none, none, none, none] [] := by
  obtain ⟨⟨hO, hRm, hL, hD, htr⟩, ⟨hX, hA, hB, hM, hw⟩, ⟨hxw, hwn⟩, hz, hLL⟩ := id H
  have hQ0 := zQR_0 hQ 0
  have hW := zI_W hQ.1
  have ag := c_setProcessors hQ (G.2.2.2.2.2 (ix (nI i + 1)))
  obtain ⟨P, eP⟩ : ∃ P, P = (mP_setProcessors M (G.2.2.2.2.2 (ix (nI i + 1)))) := ⟨_, rfl⟩
  rw [← eP] at ag
  have rest : ∀ (cv : Int32) (τ2 : zTu) (A2 B2 : zSg), P.1 0 0 = cv → (cv = 0 → τ2 w 0 = P.2.toInt64) → (∃ n', zQR n' K A2 P.1) → zU B2 → zV G X 9 (300 * (j + 1) - 1) (2500 * (j + 1) - 6) (fun z => n ≤ z) ly τ2 (st3 σ x A2 B2 M) 215 [some (.ref G.2.2.2.1), some (.ref x), some (.ref (x + 191)), some (.ref w), some (.int (nI i)), none, none, none, none] [.int cv] := by
    intro cv τ2 A2 B2 hcv hval hq2 hu2
    obtain ⟨n', hq2⟩ := hq2
    refine zr_istore_5 hO dL_law_215 (by decide) rfl ?_
    refine zr_aload_2 hO dL_law_217 ?_
    refine zr_aload_0 hO dL_law_218 ?_
    refine zr_iload_4 hO dL_law_219 ?_
    refine zr_iconst (v := 1) hO dL_law_221 (by decide) ?_
    refine zr_iadd hO dL_law_222 ?_
    refine zV_pc (pc' := 223) rfl ?_
    refine zr_sld hO (by rw [nI_1]; exact sidx hLL hi (by decide)) dL_law_223 ?_
    rw [st3_M]
    refine zV_pc (pc' := 224) rfl ?_
    refine zr_V1 (D := D) hO hRm hL (by omega) (by decide) (c := 7) (by decide) (zM_0 hM) rfl rfl (e_X7_setProcessors (d := D - 1) htr hM (by omega) hW) zl_L_117 zi_X7_setProcessors zs_X7_setProcessors zc_X7_setProcessors zn_X7 zd_X7_setProcessors (Nat.le_of_ble_eq_true rfl) dL_law_224 (by omega) (by omega) ?_
    rw [← eP]
    rw [← st3_M]
    refine zV_pc (pc' := 227) rfl ?_
    refine zr_istore_6 hO dL_law_227 (by decide) rfl ?_
    refine zr_aload_2 hO dL_law_229 ?_
    rw [st3_M]
    refine zV_pc (pc' := 230) rfl ?_
    refine zr_V0 (D := D) hO hRm hL (by omega) (by decide) (c := 7) (by decide) (zM_0 hM) rfl rfl (e_X7_thrown (d := D - 1) htr hM (by omega)) zl_L_118 zi_X7_thrown zs_X7_thrown zc_X7_thrown zn_X7 zd_X7_thrown (Nat.le_of_ble_eq_true rfl) dL_law_230 (by omega) (by omega) ?_
    rw [← st3_M]
    refine zV_pc (pc' := 233) rfl ?_
    refine zr_iload_5 hO dL_law_233 ?_
    refine zr_icmp_eq (tgt := 240) hO dL_law_235 (by decide) (fun c9 => ?_) (fun c9 => absurd hcv c9)
    refine zr_iload_5 hO dL_law_240 ?_
    have fin : ∀ bc bs, 300 * j ≤ bc → 2500 * j ≤ bs → zV G X 9 bc bs (fun z => n ≤ z) ly τ2 (st3 σ x A2 B2 P.1) 257 [some (.ref G.2.2.2.1), some (.ref x), some (.ref (x + 191)), some (.ref w), some (.int (nI i)), some (.int cv), some (.int P.2), none, none] [] := by
      intro bc bs g1 g2
      refine zr_goto (tgt := 2173) hO dL_law_257 (by decide) ?_
      exact t_end H hn hq2 hu2 (by omega) g1 g2
    refine zr_if_ne (tgt := 257) hO dL_law_242 (by decide) (fun c9 => fin _ _ (by omega) (by omega)) (fun c8 => ?_)
    refine zr_aload_3 hO dL_law_245 ?_
    refine zr_iconst (v := 0) hO dL_law_246 (by decide) ?_
    refine zr_lald hO hw (zin_i ⟨by decide, by decide⟩) dL_law_247 ?_
    refine zV_pc (pc' := 248) rfl ?_
    refine zr_iload_6 hO dL_law_248 ?_
    refine zr_i2l hO dL_law_250 ?_
    refine zV_pc (pc' := 251) rfl ?_
    refine zr_lcmp_eq (tgt := 257) hO dL_law_251 dL_law_252 (by decide) (fun c7 => fin _ _ (by omega) (by omega)) (fun c7 => absurd (hval c8) c7)
  refine zr_aload_1 hO dL_law_204 ?_
  refine zr_aload_0 hO dL_law_205 ?_
  refine zr_iload_4 hO dL_law_206 ?_
  refine zr_iconst (v := 1) hO dL_law_208 (by decide) ?_
  refine zr_iadd hO dL_law_209 ?_
  refine zV_pc (pc' := 210) rfl ?_
  refine zr_sld hO (by rw [nI_1]; exact sidx hLL hi (by decide)) dL_law_210 ?_
  refine zr_aload_3 hO dL_law_211 ?_
  rw [st3_A]
  rcases hR : cP_setProcessors A (G.2.2.2.2.2 (ix (nI i + 1))) with q9 | E9
  · rw [hR] at ag
    obtain ⟨g1, g2, g3⟩ := ag
    refine zV_pc (pc' := 212) rfl ?_
    refine z_callSH (As := [.ref x, .int (G.2.2.2.2.2 (ix (nI i + 1))), .ref w]) hO hRm hL (by omega) (by decide) rfl (e_L_setProcessors (d := D - 1) htr hX hA hw (fun E h => by rw [hR] at h; cases h) (by omega)) zl_L_112 zt_L_setProcessors zc_L_setProcessors rfl zn_L zd_L_setProcessors (Nat.le_of_ble_eq_true rfl) dL_law_212 (by omega) (by omega) (fun E z ly9 τ9 σ9 h => ?_) (fun v z ly9 τ9 σ9 h => ?_)
    · obtain ⟨h1, rfl, h4⟩ := h
      rw [hR] at h4
      exact absurd h4.1 (by simp)
    · obtain ⟨h1, rfl, h4⟩ := h
      rw [hR] at h4
      obtain ⟨h5, rfl, rfl⟩ := h4
      cases h5
      refine zV_S (S' := fun z => n ≤ z) (fun z9 e9 => by subst e9; exact h1) ?_
      rw [← st3_A]
      refine zV_pc (pc' := 215) rfl ?_
      exact rest 0 _ _ _ g2 (fun _ => by rw [← g1]; exact zupL_at _ _ _ _) g3 hU
  · rw [hR] at ag
    obtain ⟨g0, g2, g3⟩ := ag
    refine zV_pc (pc' := 212) rfl ?_
    refine z_callSH (As := [.ref x, .int (G.2.2.2.2.2 (ix (nI i + 1))), .ref w]) hO hRm hL (by omega) (by decide) rfl (e_L_setProcessors (d := D - 1) htr hX hA hw (fun E h => by rw [hR] at h; cases h; exact g0) (by omega)) zl_L_112 zt_L_setProcessors zc_L_setProcessors rfl zn_L zd_L_setProcessors (Nat.le_of_ble_eq_true rfl) dL_law_212 (by omega) (by omega) (fun E z ly9 τ9 σ9 h => ?_) (fun v z ly9 τ9 σ9 h => ?_)
    · obtain ⟨h1, rfl, h4⟩ := h
      rw [hR] at h4
      exact absurd h4.1 (by simp)
    · obtain ⟨h1, rfl, h4⟩ := h
      rw [hR] at h4
      obtain ⟨h5, rfl, rfl⟩ := h4
      cases h5
      refine zV_S (S' := fun z => n ≤ z) (fun z9 e9 => by subst e9; exact h1) ?_
      rw [← st3_A]
      refine zV_pc (pc' := 215) rfl ?_
      exact rest _ _ _ _ g2 (fun h0 => absurd h0 (by simp only [LA, List.mem_cons, List.not_mem_nil, or_false] at g0; subst g0; decide)) g3 hU
set_option maxRecDepth 100000 in
set_option maxHeartbeats 1000000 in
theorem tu_setWay {G : zGm} {X : zCx} {l : Launch} {D x w n j i nn K : Nat} {ly : zLy} {τ : zTu} {σ A B M : zSg} (H : zLw G X l D ly x w n) (hn : zHead G X ly σ x w n j (i + 4)) (hQ : zQR nn K A M) (hU : zU B) (hK : K + 160 * (j + 1) + 240 ≤ 190000) (hi : i + 4 ≤ G.2.2.2.2.1) : zV G X 9 (300 * (j + 1)) (2500 * (j + 1)) (fun z => n ≤ z) ly τ (st3 σ x A B M) 260 [some (.ref G.2.2.2.1), some (.ref x), some (.ref (x + 191)), some (.ref w), some (.int (nI i)), none, none, none, none] [] := by
  obtain ⟨⟨hO, hRm, hL, hD, htr⟩, ⟨hX, hA, hB, hM, hw⟩, ⟨hxw, hwn⟩, hz, hLL⟩ := id H
  have hQ0 := zQR_0 hQ 0
  have hW := zI_W hQ.1
  have ag := c_setWay hQ (G.2.2.2.2.2 (ix (nI i + 1))) (G.2.2.2.2.2 (ix (nI i + 2))) (G.2.2.2.2.2 (ix (nI i + 3)))
  obtain ⟨P, eP⟩ : ∃ P, P = (mP_setWay M (G.2.2.2.2.2 (ix (nI i + 1))) (G.2.2.2.2.2 (ix (nI i + 2))) (G.2.2.2.2.2 (ix (nI i + 3)))) := ⟨_, rfl⟩
  rw [← eP] at ag
  have rest : ∀ (cv : Int32) (τ2 : zTu) (A2 B2 : zSg), P.1 0 0 = cv → (cv = 0 → τ2 w 0 = P.2.toInt64) → (∃ n', zQR n' K A2 P.1) → zU B2 → zV G X 9 (300 * (j + 1) - 1) (2500 * (j + 1) - 6) (fun z => n ≤ z) ly τ2 (st3 σ x A2 B2 M) 283 [some (.ref G.2.2.2.1), some (.ref x), some (.ref (x + 191)), some (.ref w), some (.int (nI i)), none, none, none, none] [.int cv] := by
    intro cv τ2 A2 B2 hcv hval hq2 hu2
    obtain ⟨n', hq2⟩ := hq2
    refine zr_istore_5 hO dL_law_283 (by decide) rfl ?_
    refine zr_aload_2 hO dL_law_285 ?_
    refine zr_aload_0 hO dL_law_286 ?_
    refine zr_iload_4 hO dL_law_287 ?_
    refine zr_iconst (v := 1) hO dL_law_289 (by decide) ?_
    refine zr_iadd hO dL_law_290 ?_
    refine zV_pc (pc' := 291) rfl ?_
    refine zr_sld hO (by rw [nI_1]; exact sidx hLL hi (by decide)) dL_law_291 ?_
    refine zr_aload_0 hO dL_law_292 ?_
    refine zr_iload_4 hO dL_law_293 ?_
    refine zr_iconst (v := 2) hO dL_law_295 (by decide) ?_
    refine zr_iadd hO dL_law_296 ?_
    refine zV_pc (pc' := 297) rfl ?_
    refine zr_sld hO (by rw [nI_2]; exact sidx hLL hi (by decide)) dL_law_297 ?_
    refine zr_aload_0 hO dL_law_298 ?_
    refine zr_iload_4 hO dL_law_299 ?_
    refine zr_iconst (v := 3) hO dL_law_301 (by decide) ?_
    refine zr_iadd hO dL_law_302 ?_
    refine zV_pc (pc' := 303) rfl ?_
    refine zr_sld hO (by rw [nI_3]; exact sidx hLL hi (by decide)) dL_law_303 ?_
    rw [st3_M]
    refine zV_pc (pc' := 304) rfl ?_
    refine zr_V3 (D := D) hO hRm hL (by omega) (by decide) (c := 7) (by decide) (zM_0 hM) rfl rfl (e_X7_setWay (d := D - 1) htr hM (by omega) hW) zl_L_125 zi_X7_setWay zs_X7_setWay zc_X7_setWay zn_X7 zd_X7_setWay (Nat.le_of_ble_eq_true rfl) dL_law_304 (by omega) (by omega) ?_
    rw [← eP]
    rw [← st3_M]
    refine zV_pc (pc' := 307) rfl ?_
    refine zr_istore_6 hO dL_law_307 (by decide) rfl ?_
    refine zr_aload_2 hO dL_law_309 ?_
    rw [st3_M]
    refine zV_pc (pc' := 310) rfl ?_
    refine zr_V0 (D := D) hO hRm hL (by omega) (by decide) (c := 7) (by decide) (zM_0 hM) rfl rfl (e_X7_thrown (d := D - 1) htr hM (by omega)) zl_L_118 zi_X7_thrown zs_X7_thrown zc_X7_thrown zn_X7 zd_X7_thrown (Nat.le_of_ble_eq_true rfl) dL_law_310 (by omega) (by omega) ?_
    rw [← st3_M]
    refine zV_pc (pc' := 313) rfl ?_
    refine zr_iload_5 hO dL_law_313 ?_
    refine zr_icmp_eq (tgt := 320) hO dL_law_315 (by decide) (fun c9 => ?_) (fun c9 => absurd hcv c9)
    refine zr_iload_5 hO dL_law_320 ?_
    have fin : ∀ bc bs, 300 * j ≤ bc → 2500 * j ≤ bs → zV G X 9 bc bs (fun z => n ≤ z) ly τ2 (st3 σ x A2 B2 P.1) 337 [some (.ref G.2.2.2.1), some (.ref x), some (.ref (x + 191)), some (.ref w), some (.int (nI i)), some (.int cv), some (.int P.2), none, none] [] := by
      intro bc bs g1 g2
      refine zr_goto (tgt := 2173) hO dL_law_337 (by decide) ?_
      exact t_end H hn hq2 hu2 (by omega) g1 g2
    refine zr_if_ne (tgt := 337) hO dL_law_322 (by decide) (fun c9 => fin _ _ (by omega) (by omega)) (fun c8 => ?_)
    refine zr_aload_3 hO dL_law_325 ?_
    refine zr_iconst (v := 0) hO dL_law_326 (by decide) ?_
    refine zr_lald hO hw (zin_i ⟨by decide, by decide⟩) dL_law_327 ?_
    refine zV_pc (pc' := 328) rfl ?_
    refine zr_iload_6 hO dL_law_328 ?_
    refine zr_i2l hO dL_law_330 ?_
    refine zV_pc (pc' := 331) rfl ?_
    refine zr_lcmp_eq (tgt := 337) hO dL_law_331 dL_law_332 (by decide) (fun c7 => fin _ _ (by omega) (by omega)) (fun c7 => absurd (hval c8) c7)
  refine zr_aload_1 hO dL_law_260 ?_
  refine zr_aload_0 hO dL_law_261 ?_
  refine zr_iload_4 hO dL_law_262 ?_
  refine zr_iconst (v := 1) hO dL_law_264 (by decide) ?_
  refine zr_iadd hO dL_law_265 ?_
  refine zV_pc (pc' := 266) rfl ?_
  refine zr_sld hO (by rw [nI_1]; exact sidx hLL hi (by decide)) dL_law_266 ?_
  refine zr_aload_0 hO dL_law_267 ?_
  refine zr_iload_4 hO dL_law_268 ?_
  refine zr_iconst (v := 2) hO dL_law_270 (by decide) ?_
  refine zr_iadd hO dL_law_271 ?_
  refine zV_pc (pc' := 272) rfl ?_
  refine zr_sld hO (by rw [nI_2]; exact sidx hLL hi (by decide)) dL_law_272 ?_
  refine zr_aload_0 hO dL_law_273 ?_
  refine zr_iload_4 hO dL_law_274 ?_
  refine zr_iconst (v := 3) hO dL_law_276 (by decide) ?_
  refine zr_iadd hO dL_law_277 ?_
  refine zV_pc (pc' := 278) rfl ?_
  refine zr_sld hO (by rw [nI_3]; exact sidx hLL hi (by decide)) dL_law_278 ?_
  refine zr_aload_3 hO dL_law_279 ?_
  rw [st3_A]
  rcases hR : cP_setWay A (G.2.2.2.2.2 (ix (nI i + 1))) (G.2.2.2.2.2 (ix (nI i + 2))) (G.2.2.2.2.2 (ix (nI i + 3))) with q9 | E9
  · rw [hR] at ag
    obtain ⟨g1, g2, g3⟩ := ag
    refine zV_pc (pc' := 280) rfl ?_
    refine z_callSH (As := [.ref x, .int (G.2.2.2.2.2 (ix (nI i + 1))), .int (G.2.2.2.2.2 (ix (nI i + 2))), .int (G.2.2.2.2.2 (ix (nI i + 3))), .ref w]) hO hRm hL (by omega) (by decide) rfl (e_L_setWay (d := D - 1) htr hX hA hw (fun E h => by rw [hR] at h; cases h) (by omega)) zl_L_122 zt_L_setWay zc_L_setWay rfl zn_L zd_L_setWay (Nat.le_of_ble_eq_true rfl) dL_law_280 (by omega) (by omega) (fun E z ly9 τ9 σ9 h => ?_) (fun v z ly9 τ9 σ9 h => ?_)
    · obtain ⟨h1, rfl, h4⟩ := h
      rw [hR] at h4
      exact absurd h4.1 (by simp)
    · obtain ⟨h1, rfl, h4⟩ := h
      rw [hR] at h4
      obtain ⟨h5, rfl, rfl⟩ := h4
      cases h5
      refine zV_S (S' := fun z => n ≤ z) (fun z9 e9 => by subst e9; exact h1) ?_
      rw [← st3_A]
      refine zV_pc (pc' := 283) rfl ?_
      exact rest 0 _ _ _ g2 (fun _ => by rw [← g1]; exact zupL_at _ _ _ _) g3 hU
  · rw [hR] at ag
    obtain ⟨g0, g2, g3⟩ := ag
    refine zV_pc (pc' := 280) rfl ?_
    refine z_callSH (As := [.ref x, .int (G.2.2.2.2.2 (ix (nI i + 1))), .int (G.2.2.2.2.2 (ix (nI i + 2))), .int (G.2.2.2.2.2 (ix (nI i + 3))), .ref w]) hO hRm hL (by omega) (by decide) rfl (e_L_setWay (d := D - 1) htr hX hA hw (fun E h => by rw [hR] at h; cases h; exact g0) (by omega)) zl_L_122 zt_L_setWay zc_L_setWay rfl zn_L zd_L_setWay (Nat.le_of_ble_eq_true rfl) dL_law_280 (by omega) (by omega) (fun E z ly9 τ9 σ9 h => ?_) (fun v z ly9 τ9 σ9 h => ?_)
    · obtain ⟨h1, rfl, h4⟩ := h
      rw [hR] at h4
      exact absurd h4.1 (by simp)
    · obtain ⟨h1, rfl, h4⟩ := h
      rw [hR] at h4
      obtain ⟨h5, rfl, rfl⟩ := h4
      cases h5
      refine zV_S (S' := fun z => n ≤ z) (fun z9 e9 => by subst e9; exact h1) ?_
      rw [← st3_A]
      refine zV_pc (pc' := 283) rfl ?_
      exact rest _ _ _ _ g2 (fun h0 => absurd h0 (by simp only [LA, List.mem_cons, List.not_mem_nil, or_false] at g0; subst g0; decide)) g3 hU
set_option maxRecDepth 100000 in
set_option maxHeartbeats 1000000 in
theorem tu_setQuota {G : zGm} {X : zCx} {l : Launch} {D x w n j i nn K : Nat} {ly : zLy} {τ : zTu} {σ A B M : zSg} (H : zLw G X l D ly x w n) (hn : zHead G X ly σ x w n j (i + 4)) (hQ : zQR nn K A M) (hU : zU B) (hK : K + 160 * (j + 1) + 240 ≤ 190000) (hi : i + 4 ≤ G.2.2.2.2.1) : zV G X 9 (300 * (j + 1)) (2500 * (j + 1)) (fun z => n ≤ z) ly τ (st3 σ x A B M) 340 [some (.ref G.2.2.2.1), some (.ref x), some (.ref (x + 191)), some (.ref w), some (.int (nI i)), none, none, none, none] [] := by
  obtain ⟨⟨hO, hRm, hL, hD, htr⟩, ⟨hX, hA, hB, hM, hw⟩, ⟨hxw, hwn⟩, hz, hLL⟩ := id H
  have hQ0 := zQR_0 hQ 0
  have hW := zI_W hQ.1
  have ag := c_setQuota hQ (G.2.2.2.2.2 (ix (nI i + 1))) (G.2.2.2.2.2 (ix (nI i + 2)))
  obtain ⟨P, eP⟩ : ∃ P, P = (mP_setQuota M (G.2.2.2.2.2 (ix (nI i + 1))) (G.2.2.2.2.2 (ix (nI i + 2)))) := ⟨_, rfl⟩
  rw [← eP] at ag
  have rest : ∀ (cv : Int32) (τ2 : zTu) (A2 B2 : zSg), P.1 0 0 = cv → (cv = 0 → τ2 w 0 = P.2.toInt64) → (∃ n', zQR n' K A2 P.1) → zU B2 → zV G X 9 (300 * (j + 1) - 1) (2500 * (j + 1) - 6) (fun z => n ≤ z) ly τ2 (st3 σ x A2 B2 M) 357 [some (.ref G.2.2.2.1), some (.ref x), some (.ref (x + 191)), some (.ref w), some (.int (nI i)), none, none, none, none] [.int cv] := by
    intro cv τ2 A2 B2 hcv hval hq2 hu2
    obtain ⟨n', hq2⟩ := hq2
    refine zr_istore_5 hO dL_law_357 (by decide) rfl ?_
    refine zr_aload_2 hO dL_law_359 ?_
    refine zr_aload_0 hO dL_law_360 ?_
    refine zr_iload_4 hO dL_law_361 ?_
    refine zr_iconst (v := 1) hO dL_law_363 (by decide) ?_
    refine zr_iadd hO dL_law_364 ?_
    refine zV_pc (pc' := 365) rfl ?_
    refine zr_sld hO (by rw [nI_1]; exact sidx hLL hi (by decide)) dL_law_365 ?_
    refine zr_aload_0 hO dL_law_366 ?_
    refine zr_iload_4 hO dL_law_367 ?_
    refine zr_iconst (v := 2) hO dL_law_369 (by decide) ?_
    refine zr_iadd hO dL_law_370 ?_
    refine zV_pc (pc' := 371) rfl ?_
    refine zr_sld hO (by rw [nI_2]; exact sidx hLL hi (by decide)) dL_law_371 ?_
    rw [st3_M]
    refine zV_pc (pc' := 372) rfl ?_
    refine zr_V2 (D := D) hO hRm hL (by omega) (by decide) (c := 7) (by decide) (zM_0 hM) rfl rfl (e_X7_setQuota (d := D - 1) htr hM (by omega) hW) zl_L_129 zi_X7_setQuota zs_X7_setQuota zc_X7_setQuota zn_X7 zd_X7_setQuota (Nat.le_of_ble_eq_true rfl) dL_law_372 (by omega) (by omega) ?_
    rw [← eP]
    rw [← st3_M]
    refine zV_pc (pc' := 375) rfl ?_
    refine zr_istore_6 hO dL_law_375 (by decide) rfl ?_
    refine zr_aload_2 hO dL_law_377 ?_
    rw [st3_M]
    refine zV_pc (pc' := 378) rfl ?_
    refine zr_V0 (D := D) hO hRm hL (by omega) (by decide) (c := 7) (by decide) (zM_0 hM) rfl rfl (e_X7_thrown (d := D - 1) htr hM (by omega)) zl_L_118 zi_X7_thrown zs_X7_thrown zc_X7_thrown zn_X7 zd_X7_thrown (Nat.le_of_ble_eq_true rfl) dL_law_378 (by omega) (by omega) ?_
    rw [← st3_M]
    refine zV_pc (pc' := 381) rfl ?_
    refine zr_iload_5 hO dL_law_381 ?_
    refine zr_icmp_eq (tgt := 388) hO dL_law_383 (by decide) (fun c9 => ?_) (fun c9 => absurd hcv c9)
    refine zr_iload_5 hO dL_law_388 ?_
    have fin : ∀ bc bs, 300 * j ≤ bc → 2500 * j ≤ bs → zV G X 9 bc bs (fun z => n ≤ z) ly τ2 (st3 σ x A2 B2 P.1) 405 [some (.ref G.2.2.2.1), some (.ref x), some (.ref (x + 191)), some (.ref w), some (.int (nI i)), some (.int cv), some (.int P.2), none, none] [] := by
      intro bc bs g1 g2
      refine zr_goto (tgt := 2173) hO dL_law_405 (by decide) ?_
      exact t_end H hn hq2 hu2 (by omega) g1 g2
    refine zr_if_ne (tgt := 405) hO dL_law_390 (by decide) (fun c9 => fin _ _ (by omega) (by omega)) (fun c8 => ?_)
    refine zr_aload_3 hO dL_law_393 ?_
    refine zr_iconst (v := 0) hO dL_law_394 (by decide) ?_
    refine zr_lald hO hw (zin_i ⟨by decide, by decide⟩) dL_law_395 ?_
    refine zV_pc (pc' := 396) rfl ?_
    refine zr_iload_6 hO dL_law_396 ?_
    refine zr_i2l hO dL_law_398 ?_
    refine zV_pc (pc' := 399) rfl ?_
    refine zr_lcmp_eq (tgt := 405) hO dL_law_399 dL_law_400 (by decide) (fun c7 => fin _ _ (by omega) (by omega)) (fun c7 => absurd (hval c8) c7)
  refine zr_aload_1 hO dL_law_340 ?_
  refine zr_aload_0 hO dL_law_341 ?_
  refine zr_iload_4 hO dL_law_342 ?_
  refine zr_iconst (v := 1) hO dL_law_344 (by decide) ?_
  refine zr_iadd hO dL_law_345 ?_
  refine zV_pc (pc' := 346) rfl ?_
  refine zr_sld hO (by rw [nI_1]; exact sidx hLL hi (by decide)) dL_law_346 ?_
  refine zr_aload_0 hO dL_law_347 ?_
  refine zr_iload_4 hO dL_law_348 ?_
  refine zr_iconst (v := 2) hO dL_law_350 (by decide) ?_
  refine zr_iadd hO dL_law_351 ?_
  refine zV_pc (pc' := 352) rfl ?_
  refine zr_sld hO (by rw [nI_2]; exact sidx hLL hi (by decide)) dL_law_352 ?_
  refine zr_aload_3 hO dL_law_353 ?_
  rw [st3_A]
  rcases hR : cP_setQuota A (G.2.2.2.2.2 (ix (nI i + 1))) (G.2.2.2.2.2 (ix (nI i + 2))) with q9 | E9
  · rw [hR] at ag
    obtain ⟨g1, g2, g3⟩ := ag
    refine zV_pc (pc' := 354) rfl ?_
    refine z_callSH (As := [.ref x, .int (G.2.2.2.2.2 (ix (nI i + 1))), .int (G.2.2.2.2.2 (ix (nI i + 2))), .ref w]) hO hRm hL (by omega) (by decide) rfl (e_L_setQuota (d := D - 1) htr hX hA hw (fun E h => by rw [hR] at h; cases h) (by omega)) zl_L_126 zt_L_setQuota zc_L_setQuota rfl zn_L zd_L_setQuota (Nat.le_of_ble_eq_true rfl) dL_law_354 (by omega) (by omega) (fun E z ly9 τ9 σ9 h => ?_) (fun v z ly9 τ9 σ9 h => ?_)
    · obtain ⟨h1, rfl, h4⟩ := h
      rw [hR] at h4
      exact absurd h4.1 (by simp)
    · obtain ⟨h1, rfl, h4⟩ := h
      rw [hR] at h4
      obtain ⟨h5, rfl, rfl⟩ := h4
      cases h5
      refine zV_S (S' := fun z => n ≤ z) (fun z9 e9 => by subst e9; exact h1) ?_
      rw [← st3_A]
      refine zV_pc (pc' := 357) rfl ?_
      exact rest 0 _ _ _ g2 (fun _ => by rw [← g1]; exact zupL_at _ _ _ _) g3 hU
  · rw [hR] at ag
    obtain ⟨g0, g2, g3⟩ := ag
    refine zV_pc (pc' := 354) rfl ?_
    refine z_callSH (As := [.ref x, .int (G.2.2.2.2.2 (ix (nI i + 1))), .int (G.2.2.2.2.2 (ix (nI i + 2))), .ref w]) hO hRm hL (by omega) (by decide) rfl (e_L_setQuota (d := D - 1) htr hX hA hw (fun E h => by rw [hR] at h; cases h; exact g0) (by omega)) zl_L_126 zt_L_setQuota zc_L_setQuota rfl zn_L zd_L_setQuota (Nat.le_of_ble_eq_true rfl) dL_law_354 (by omega) (by omega) (fun E z ly9 τ9 σ9 h => ?_) (fun v z ly9 τ9 σ9 h => ?_)
    · obtain ⟨h1, rfl, h4⟩ := h
      rw [hR] at h4
      exact absurd h4.1 (by simp)
    · obtain ⟨h1, rfl, h4⟩ := h
      rw [hR] at h4
      obtain ⟨h5, rfl, rfl⟩ := h4
      cases h5
      refine zV_S (S' := fun z => n ≤ z) (fun z9 e9 => by subst e9; exact h1) ?_
      rw [← st3_A]
      refine zV_pc (pc' := 357) rfl ?_
      exact rest _ _ _ _ g2 (fun h0 => absurd h0 (by simp only [LXA, List.mem_cons, List.not_mem_nil, or_false] at g0; rcases g0 with rfl | rfl <;> decide)) g3 hU
set_option maxRecDepth 100000 in
set_option maxHeartbeats 1000000 in
theorem tu_setPeriod {G : zGm} {X : zCx} {l : Launch} {D x w n j i nn K : Nat} {ly : zLy} {τ : zTu} {σ A B M : zSg} (H : zLw G X l D ly x w n) (hn : zHead G X ly σ x w n j (i + 4)) (hQ : zQR nn K A M) (hU : zU B) (hK : K + 160 * (j + 1) + 240 ≤ 190000) (hi : i + 4 ≤ G.2.2.2.2.1) : zV G X 9 (300 * (j + 1)) (2500 * (j + 1)) (fun z => n ≤ z) ly τ (st3 σ x A B M) 408 [some (.ref G.2.2.2.1), some (.ref x), some (.ref (x + 191)), some (.ref w), some (.int (nI i)), none, none, none, none] [] := by
  obtain ⟨⟨hO, hRm, hL, hD, htr⟩, ⟨hX, hA, hB, hM, hw⟩, ⟨hxw, hwn⟩, hz, hLL⟩ := id H
  have hQ0 := zQR_0 hQ 0
  have hW := zI_W hQ.1
  have ag := c_setPeriod hQ (G.2.2.2.2.2 (ix (nI i + 1)))
  obtain ⟨P, eP⟩ : ∃ P, P = (mP_setPeriod M (G.2.2.2.2.2 (ix (nI i + 1)))) := ⟨_, rfl⟩
  rw [← eP] at ag
  have rest : ∀ (cv : Int32) (τ2 : zTu) (A2 B2 : zSg), P.1 0 0 = cv → (cv = 0 → τ2 w 0 = P.2.toInt64) → (∃ n', zQR n' K A2 P.1) → zU B2 → zV G X 9 (300 * (j + 1) - 1) (2500 * (j + 1) - 6) (fun z => n ≤ z) ly τ2 (st3 σ x A2 B2 M) 419 [some (.ref G.2.2.2.1), some (.ref x), some (.ref (x + 191)), some (.ref w), some (.int (nI i)), none, none, none, none] [.int cv] := by
    intro cv τ2 A2 B2 hcv hval hq2 hu2
    obtain ⟨n', hq2⟩ := hq2
    refine zr_istore_5 hO dL_law_419 (by decide) rfl ?_
    refine zr_aload_2 hO dL_law_421 ?_
    refine zr_aload_0 hO dL_law_422 ?_
    refine zr_iload_4 hO dL_law_423 ?_
    refine zr_iconst (v := 1) hO dL_law_425 (by decide) ?_
    refine zr_iadd hO dL_law_426 ?_
    refine zV_pc (pc' := 427) rfl ?_
    refine zr_sld hO (by rw [nI_1]; exact sidx hLL hi (by decide)) dL_law_427 ?_
    rw [st3_M]
    refine zV_pc (pc' := 428) rfl ?_
    refine zr_V1 (D := D) hO hRm hL (by omega) (by decide) (c := 7) (by decide) (zM_0 hM) rfl rfl (e_X7_setPeriod (d := D - 1) htr hM (by omega) hW) zl_L_132 zi_X7_setPeriod zs_X7_setPeriod zc_X7_setPeriod zn_X7 zd_X7_setPeriod (Nat.le_of_ble_eq_true rfl) dL_law_428 (by omega) (by omega) ?_
    rw [← eP]
    rw [← st3_M]
    refine zV_pc (pc' := 431) rfl ?_
    refine zr_istore_6 hO dL_law_431 (by decide) rfl ?_
    refine zr_aload_2 hO dL_law_433 ?_
    rw [st3_M]
    refine zV_pc (pc' := 434) rfl ?_
    refine zr_V0 (D := D) hO hRm hL (by omega) (by decide) (c := 7) (by decide) (zM_0 hM) rfl rfl (e_X7_thrown (d := D - 1) htr hM (by omega)) zl_L_118 zi_X7_thrown zs_X7_thrown zc_X7_thrown zn_X7 zd_X7_thrown (Nat.le_of_ble_eq_true rfl) dL_law_434 (by omega) (by omega) ?_
    rw [← st3_M]
    refine zV_pc (pc' := 437) rfl ?_
    refine zr_iload_5 hO dL_law_437 ?_
    refine zr_icmp_eq (tgt := 444) hO dL_law_439 (by decide) (fun c9 => ?_) (fun c9 => absurd hcv c9)
    refine zr_iload_5 hO dL_law_444 ?_
    have fin : ∀ bc bs, 300 * j ≤ bc → 2500 * j ≤ bs → zV G X 9 bc bs (fun z => n ≤ z) ly τ2 (st3 σ x A2 B2 P.1) 461 [some (.ref G.2.2.2.1), some (.ref x), some (.ref (x + 191)), some (.ref w), some (.int (nI i)), some (.int cv), some (.int P.2), none, none] [] := by
      intro bc bs g1 g2
      refine zr_goto (tgt := 2173) hO dL_law_461 (by decide) ?_
      exact t_end H hn hq2 hu2 (by omega) g1 g2
    refine zr_if_ne (tgt := 461) hO dL_law_446 (by decide) (fun c9 => fin _ _ (by omega) (by omega)) (fun c8 => ?_)
    refine zr_aload_3 hO dL_law_449 ?_
    refine zr_iconst (v := 0) hO dL_law_450 (by decide) ?_
    refine zr_lald hO hw (zin_i ⟨by decide, by decide⟩) dL_law_451 ?_
    refine zV_pc (pc' := 452) rfl ?_
    refine zr_iload_6 hO dL_law_452 ?_
    refine zr_i2l hO dL_law_454 ?_
    refine zV_pc (pc' := 455) rfl ?_
    refine zr_lcmp_eq (tgt := 461) hO dL_law_455 dL_law_456 (by decide) (fun c7 => fin _ _ (by omega) (by omega)) (fun c7 => absurd (hval c8) c7)
  refine zr_aload_1 hO dL_law_408 ?_
  refine zr_aload_0 hO dL_law_409 ?_
  refine zr_iload_4 hO dL_law_410 ?_
  refine zr_iconst (v := 1) hO dL_law_412 (by decide) ?_
  refine zr_iadd hO dL_law_413 ?_
  refine zV_pc (pc' := 414) rfl ?_
  refine zr_sld hO (by rw [nI_1]; exact sidx hLL hi (by decide)) dL_law_414 ?_
  refine zr_aload_3 hO dL_law_415 ?_
  rw [st3_A]
  rcases hR : cP_setPeriod A (G.2.2.2.2.2 (ix (nI i + 1))) with q9 | E9
  · rw [hR] at ag
    obtain ⟨g1, g2, g3⟩ := ag
    refine zV_pc (pc' := 416) rfl ?_
    refine z_callSH (As := [.ref x, .int (G.2.2.2.2.2 (ix (nI i + 1))), .ref w]) hO hRm hL (by omega) (by decide) rfl (e_L_setPeriod (d := D - 1) htr hX hA hw (fun E h => by rw [hR] at h; cases h) (by omega)) zl_L_130 zt_L_setPeriod zc_L_setPeriod rfl zn_L zd_L_setPeriod (Nat.le_of_ble_eq_true rfl) dL_law_416 (by omega) (by omega) (fun E z ly9 τ9 σ9 h => ?_) (fun v z ly9 τ9 σ9 h => ?_)
    · obtain ⟨h1, rfl, h4⟩ := h
      rw [hR] at h4
      exact absurd h4.1 (by simp)
    · obtain ⟨h1, rfl, h4⟩ := h
      rw [hR] at h4
      obtain ⟨h5, rfl, rfl⟩ := h4
      cases h5
      refine zV_S (S' := fun z => n ≤ z) (fun z9 e9 => by subst e9; exact h1) ?_
      rw [← st3_A]
      refine zV_pc (pc' := 419) rfl ?_
      exact rest 0 _ _ _ g2 (fun _ => by rw [← g1]; exact zupL_at _ _ _ _) g3 hU
  · rw [hR] at ag
    obtain ⟨g0, g2, g3⟩ := ag
    refine zV_pc (pc' := 416) rfl ?_
    refine z_callSH (As := [.ref x, .int (G.2.2.2.2.2 (ix (nI i + 1))), .ref w]) hO hRm hL (by omega) (by decide) rfl (e_L_setPeriod (d := D - 1) htr hX hA hw (fun E h => by rw [hR] at h; cases h; exact g0) (by omega)) zl_L_130 zt_L_setPeriod zc_L_setPeriod rfl zn_L zd_L_setPeriod (Nat.le_of_ble_eq_true rfl) dL_law_416 (by omega) (by omega) (fun E z ly9 τ9 σ9 h => ?_) (fun v z ly9 τ9 σ9 h => ?_)
    · obtain ⟨h1, rfl, h4⟩ := h
      rw [hR] at h4
      exact absurd h4.1 (by simp)
    · obtain ⟨h1, rfl, h4⟩ := h
      rw [hR] at h4
      obtain ⟨h5, rfl, rfl⟩ := h4
      cases h5
      refine zV_S (S' := fun z => n ≤ z) (fun z9 e9 => by subst e9; exact h1) ?_
      rw [← st3_A]
      refine zV_pc (pc' := 419) rfl ?_
      exact rest _ _ _ _ g2 (fun h0 => absurd h0 (by simp only [LA, List.mem_cons, List.not_mem_nil, or_false] at g0; subst g0; decide)) g3 hU
set_option maxRecDepth 100000 in
set_option maxHeartbeats 1000000 in
theorem tu_addTask {G : zGm} {X : zCx} {l : Launch} {D x w n j i nn K : Nat} {ly : zLy} {τ : zTu} {σ A B M : zSg} (H : zLw G X l D ly x w n) (hn : zHead G X ly σ x w n j (i + 4)) (hQ : zQR nn K A M) (hU : zU B) (hK : K + 160 * (j + 1) + 240 ≤ 190000) (hi : i + 4 ≤ G.2.2.2.2.1) : zV G X 9 (300 * (j + 1)) (2500 * (j + 1)) (fun z => n ≤ z) ly τ (st3 σ x A B M) 464 [some (.ref G.2.2.2.1), some (.ref x), some (.ref (x + 191)), some (.ref w), some (.int (nI i)), none, none, none, none] [] := by
  obtain ⟨⟨hO, hRm, hL, hD, htr⟩, ⟨hX, hA, hB, hM, hw⟩, ⟨hxw, hwn⟩, hz, hLL⟩ := id H
  have hQ0 := zQR_0 hQ 0
  have hW := zI_W hQ.1
  have ag := c_addTask hQ (G.2.2.2.2.2 (ix (nI i + 1))) (G.2.2.2.2.2 (ix (nI i + 2))) (G.2.2.2.2.2 (ix (nI i + 3)))
  obtain ⟨P, eP⟩ : ∃ P, P = (mP_addTask M (G.2.2.2.2.2 (ix (nI i + 1))) (G.2.2.2.2.2 (ix (nI i + 2))) (G.2.2.2.2.2 (ix (nI i + 3)))) := ⟨_, rfl⟩
  rw [← eP] at ag
  have rest : ∀ (cv : Int32) (τ2 : zTu) (A2 B2 : zSg), P.1 0 0 = cv → (cv = 0 → τ2 w 0 = P.2.toInt64) → (∃ n', zQR n' K A2 P.1) → zU B2 → zV G X 9 (300 * (j + 1) - 1) (2500 * (j + 1) - 6) (fun z => n ≤ z) ly τ2 (st3 σ x A2 B2 M) 487 [some (.ref G.2.2.2.1), some (.ref x), some (.ref (x + 191)), some (.ref w), some (.int (nI i)), none, none, none, none] [.int cv] := by
    intro cv τ2 A2 B2 hcv hval hq2 hu2
    obtain ⟨n', hq2⟩ := hq2
    refine zr_istore_5 hO dL_law_487 (by decide) rfl ?_
    refine zr_aload_2 hO dL_law_489 ?_
    refine zr_aload_0 hO dL_law_490 ?_
    refine zr_iload_4 hO dL_law_491 ?_
    refine zr_iconst (v := 1) hO dL_law_493 (by decide) ?_
    refine zr_iadd hO dL_law_494 ?_
    refine zV_pc (pc' := 495) rfl ?_
    refine zr_sld hO (by rw [nI_1]; exact sidx hLL hi (by decide)) dL_law_495 ?_
    refine zr_aload_0 hO dL_law_496 ?_
    refine zr_iload_4 hO dL_law_497 ?_
    refine zr_iconst (v := 2) hO dL_law_499 (by decide) ?_
    refine zr_iadd hO dL_law_500 ?_
    refine zV_pc (pc' := 501) rfl ?_
    refine zr_sld hO (by rw [nI_2]; exact sidx hLL hi (by decide)) dL_law_501 ?_
    refine zr_aload_0 hO dL_law_502 ?_
    refine zr_iload_4 hO dL_law_503 ?_
    refine zr_iconst (v := 3) hO dL_law_505 (by decide) ?_
    refine zr_iadd hO dL_law_506 ?_
    refine zV_pc (pc' := 507) rfl ?_
    refine zr_sld hO (by rw [nI_3]; exact sidx hLL hi (by decide)) dL_law_507 ?_
    rw [st3_M]
    refine zV_pc (pc' := 508) rfl ?_
    refine zr_V3 (D := D) hO hRm hL (by omega) (by decide) (c := 7) (by decide) (zM_0 hM) rfl rfl (e_X7_addTask (d := D - 1) htr hM (by omega) hW) zl_L_135 zi_X7_addTask zs_X7_addTask zc_X7_addTask zn_X7 zd_X7_addTask (Nat.le_of_ble_eq_true rfl) dL_law_508 (by omega) (by omega) ?_
    rw [← eP]
    rw [← st3_M]
    refine zV_pc (pc' := 511) rfl ?_
    refine zr_istore_6 hO dL_law_511 (by decide) rfl ?_
    refine zr_aload_2 hO dL_law_513 ?_
    rw [st3_M]
    refine zV_pc (pc' := 514) rfl ?_
    refine zr_V0 (D := D) hO hRm hL (by omega) (by decide) (c := 7) (by decide) (zM_0 hM) rfl rfl (e_X7_thrown (d := D - 1) htr hM (by omega)) zl_L_118 zi_X7_thrown zs_X7_thrown zc_X7_thrown zn_X7 zd_X7_thrown (Nat.le_of_ble_eq_true rfl) dL_law_514 (by omega) (by omega) ?_
    rw [← st3_M]
    refine zV_pc (pc' := 517) rfl ?_
    refine zr_iload_5 hO dL_law_517 ?_
    refine zr_icmp_eq (tgt := 524) hO dL_law_519 (by decide) (fun c9 => ?_) (fun c9 => absurd hcv c9)
    refine zr_iload_5 hO dL_law_524 ?_
    have fin : ∀ bc bs, 300 * j ≤ bc → 2500 * j ≤ bs → zV G X 9 bc bs (fun z => n ≤ z) ly τ2 (st3 σ x A2 B2 P.1) 541 [some (.ref G.2.2.2.1), some (.ref x), some (.ref (x + 191)), some (.ref w), some (.int (nI i)), some (.int cv), some (.int P.2), none, none] [] := by
      intro bc bs g1 g2
      refine zr_goto (tgt := 2173) hO dL_law_541 (by decide) ?_
      exact t_end H hn hq2 hu2 (by omega) g1 g2
    refine zr_if_ne (tgt := 541) hO dL_law_526 (by decide) (fun c9 => fin _ _ (by omega) (by omega)) (fun c8 => ?_)
    refine zr_aload_3 hO dL_law_529 ?_
    refine zr_iconst (v := 0) hO dL_law_530 (by decide) ?_
    refine zr_lald hO hw (zin_i ⟨by decide, by decide⟩) dL_law_531 ?_
    refine zV_pc (pc' := 532) rfl ?_
    refine zr_iload_6 hO dL_law_532 ?_
    refine zr_i2l hO dL_law_534 ?_
    refine zV_pc (pc' := 535) rfl ?_
    refine zr_lcmp_eq (tgt := 541) hO dL_law_535 dL_law_536 (by decide) (fun c7 => fin _ _ (by omega) (by omega)) (fun c7 => absurd (hval c8) c7)
  refine zr_aload_1 hO dL_law_464 ?_
  refine zr_aload_0 hO dL_law_465 ?_
  refine zr_iload_4 hO dL_law_466 ?_
  refine zr_iconst (v := 1) hO dL_law_468 (by decide) ?_
  refine zr_iadd hO dL_law_469 ?_
  refine zV_pc (pc' := 470) rfl ?_
  refine zr_sld hO (by rw [nI_1]; exact sidx hLL hi (by decide)) dL_law_470 ?_
  refine zr_aload_0 hO dL_law_471 ?_
  refine zr_iload_4 hO dL_law_472 ?_
  refine zr_iconst (v := 2) hO dL_law_474 (by decide) ?_
  refine zr_iadd hO dL_law_475 ?_
  refine zV_pc (pc' := 476) rfl ?_
  refine zr_sld hO (by rw [nI_2]; exact sidx hLL hi (by decide)) dL_law_476 ?_
  refine zr_aload_0 hO dL_law_477 ?_
  refine zr_iload_4 hO dL_law_478 ?_
  refine zr_iconst (v := 3) hO dL_law_480 (by decide) ?_
  refine zr_iadd hO dL_law_481 ?_
  refine zV_pc (pc' := 482) rfl ?_
  refine zr_sld hO (by rw [nI_3]; exact sidx hLL hi (by decide)) dL_law_482 ?_
  refine zr_aload_3 hO dL_law_483 ?_
  rw [st3_A]
  rcases hR : cP_addTask A (G.2.2.2.2.2 (ix (nI i + 1))) (G.2.2.2.2.2 (ix (nI i + 2))) (G.2.2.2.2.2 (ix (nI i + 3))) with q9 | E9
  · rw [hR] at ag
    obtain ⟨g1, g2, g3⟩ := ag
    refine zV_pc (pc' := 484) rfl ?_
    refine z_callSH (As := [.ref x, .int (G.2.2.2.2.2 (ix (nI i + 1))), .int (G.2.2.2.2.2 (ix (nI i + 2))), .int (G.2.2.2.2.2 (ix (nI i + 3))), .ref w]) hO hRm hL (by omega) (by decide) rfl (e_L_addTask (d := D - 1) htr hX hA hw (fun E h => by rw [hR] at h; cases h) (by omega)) zl_L_133 zt_L_addTask zc_L_addTask rfl zn_L zd_L_addTask (Nat.le_of_ble_eq_true rfl) dL_law_484 (by omega) (by omega) (fun E z ly9 τ9 σ9 h => ?_) (fun v z ly9 τ9 σ9 h => ?_)
    · obtain ⟨h1, rfl, h4⟩ := h
      rw [hR] at h4
      exact absurd h4.1 (by simp)
    · obtain ⟨h1, rfl, h4⟩ := h
      rw [hR] at h4
      obtain ⟨h5, rfl, rfl⟩ := h4
      cases h5
      refine zV_S (S' := fun z => n ≤ z) (fun z9 e9 => by subst e9; exact h1) ?_
      rw [← st3_A]
      refine zV_pc (pc' := 487) rfl ?_
      exact rest 0 _ _ _ g2 (fun _ => by rw [← g1]; exact zupL_at _ _ _ _) g3 hU
  · rw [hR] at ag
    obtain ⟨g0, g2, g3⟩ := ag
    refine zV_pc (pc' := 484) rfl ?_
    refine z_callSH (As := [.ref x, .int (G.2.2.2.2.2 (ix (nI i + 1))), .int (G.2.2.2.2.2 (ix (nI i + 2))), .int (G.2.2.2.2.2 (ix (nI i + 3))), .ref w]) hO hRm hL (by omega) (by decide) rfl (e_L_addTask (d := D - 1) htr hX hA hw (fun E h => by rw [hR] at h; cases h; exact g0) (by omega)) zl_L_133 zt_L_addTask zc_L_addTask rfl zn_L zd_L_addTask (Nat.le_of_ble_eq_true rfl) dL_law_484 (by omega) (by omega) (fun E z ly9 τ9 σ9 h => ?_) (fun v z ly9 τ9 σ9 h => ?_)
    · obtain ⟨h1, rfl, h4⟩ := h
      rw [hR] at h4
      exact absurd h4.1 (by simp)
    · obtain ⟨h1, rfl, h4⟩ := h
      rw [hR] at h4
      obtain ⟨h5, rfl, rfl⟩ := h4
      cases h5
      refine zV_S (S' := fun z => n ≤ z) (fun z9 e9 => by subst e9; exact h1) ?_
      rw [← st3_A]
      refine zV_pc (pc' := 487) rfl ?_
      exact rest _ _ _ _ g2 (fun h0 => absurd h0 (by simp only [LAS, List.mem_cons, List.not_mem_nil, or_false] at g0; rcases g0 with rfl | rfl <;> decide)) g3 hU
set_option maxRecDepth 100000 in
set_option maxHeartbeats 1000000 in
theorem tu_addStep {G : zGm} {X : zCx} {l : Launch} {D x w n j i nn K : Nat} {ly : zLy} {τ : zTu} {σ A B M : zSg} (H : zLw G X l D ly x w n) (hn : zHead G X ly σ x w n j (i + 4)) (hQ : zQR nn K A M) (hU : zU B) (hK : K + 160 * (j + 1) + 240 ≤ 190000) (hi : i + 4 ≤ G.2.2.2.2.1) : zV G X 9 (300 * (j + 1)) (2500 * (j + 1)) (fun z => n ≤ z) ly τ (st3 σ x A B M) 544 [some (.ref G.2.2.2.1), some (.ref x), some (.ref (x + 191)), some (.ref w), some (.int (nI i)), none, none, none, none] [] := by
  obtain ⟨⟨hO, hRm, hL, hD, htr⟩, ⟨hX, hA, hB, hM, hw⟩, ⟨hxw, hwn⟩, hz, hLL⟩ := id H
  have hQ0 := zQR_0 hQ 0
  have hW := zI_W hQ.1
  have ag := c_addStep hQ (G.2.2.2.2.2 (ix (nI i + 1))) (G.2.2.2.2.2 (ix (nI i + 2))) (G.2.2.2.2.2 (ix (nI i + 3)))
  obtain ⟨P, eP⟩ : ∃ P, P = (mP_addStep M (G.2.2.2.2.2 (ix (nI i + 1))) (G.2.2.2.2.2 (ix (nI i + 2))) (G.2.2.2.2.2 (ix (nI i + 3)))) := ⟨_, rfl⟩
  rw [← eP] at ag
  have rest : ∀ (cv : Int32) (τ2 : zTu) (A2 B2 : zSg), P.1 0 0 = cv → (cv = 0 → τ2 w 0 = P.2.toInt64) → (∃ n', zQR n' K A2 P.1) → zU B2 → zV G X 9 (300 * (j + 1) - 1) (2500 * (j + 1) - 6) (fun z => n ≤ z) ly τ2 (st3 σ x A2 B2 M) 567 [some (.ref G.2.2.2.1), some (.ref x), some (.ref (x + 191)), some (.ref w), some (.int (nI i)), none, none, none, none] [.int cv] := by
    intro cv τ2 A2 B2 hcv hval hq2 hu2
    obtain ⟨n', hq2⟩ := hq2
    refine zr_istore_5 hO dL_law_567 (by decide) rfl ?_
    refine zr_aload_2 hO dL_law_569 ?_
    refine zr_aload_0 hO dL_law_570 ?_
    refine zr_iload_4 hO dL_law_571 ?_
    refine zr_iconst (v := 1) hO dL_law_573 (by decide) ?_
    refine zr_iadd hO dL_law_574 ?_
    refine zV_pc (pc' := 575) rfl ?_
    refine zr_sld hO (by rw [nI_1]; exact sidx hLL hi (by decide)) dL_law_575 ?_
    refine zr_aload_0 hO dL_law_576 ?_
    refine zr_iload_4 hO dL_law_577 ?_
    refine zr_iconst (v := 2) hO dL_law_579 (by decide) ?_
    refine zr_iadd hO dL_law_580 ?_
    refine zV_pc (pc' := 581) rfl ?_
    refine zr_sld hO (by rw [nI_2]; exact sidx hLL hi (by decide)) dL_law_581 ?_
    refine zr_aload_0 hO dL_law_582 ?_
    refine zr_iload_4 hO dL_law_583 ?_
    refine zr_iconst (v := 3) hO dL_law_585 (by decide) ?_
    refine zr_iadd hO dL_law_586 ?_
    refine zV_pc (pc' := 587) rfl ?_
    refine zr_sld hO (by rw [nI_3]; exact sidx hLL hi (by decide)) dL_law_587 ?_
    rw [st3_M]
    refine zV_pc (pc' := 588) rfl ?_
    refine zr_V3 (D := D) hO hRm hL (by omega) (by decide) (c := 7) (by decide) (zM_0 hM) rfl rfl (e_X7_addStep (d := D - 1) htr hM (by omega) hW) zl_L_138 zi_X7_addStep zs_X7_addStep zc_X7_addStep zn_X7 zd_X7_addStep (Nat.le_of_ble_eq_true rfl) dL_law_588 (by omega) (by omega) ?_
    rw [← eP]
    rw [← st3_M]
    refine zV_pc (pc' := 591) rfl ?_
    refine zr_istore_6 hO dL_law_591 (by decide) rfl ?_
    refine zr_aload_2 hO dL_law_593 ?_
    rw [st3_M]
    refine zV_pc (pc' := 594) rfl ?_
    refine zr_V0 (D := D) hO hRm hL (by omega) (by decide) (c := 7) (by decide) (zM_0 hM) rfl rfl (e_X7_thrown (d := D - 1) htr hM (by omega)) zl_L_118 zi_X7_thrown zs_X7_thrown zc_X7_thrown zn_X7 zd_X7_thrown (Nat.le_of_ble_eq_true rfl) dL_law_594 (by omega) (by omega) ?_
    rw [← st3_M]
    refine zV_pc (pc' := 597) rfl ?_
    refine zr_iload_5 hO dL_law_597 ?_
    refine zr_icmp_eq (tgt := 604) hO dL_law_599 (by decide) (fun c9 => ?_) (fun c9 => absurd hcv c9)
    refine zr_iload_5 hO dL_law_604 ?_
    have fin : ∀ bc bs, 300 * j ≤ bc → 2500 * j ≤ bs → zV G X 9 bc bs (fun z => n ≤ z) ly τ2 (st3 σ x A2 B2 P.1) 621 [some (.ref G.2.2.2.1), some (.ref x), some (.ref (x + 191)), some (.ref w), some (.int (nI i)), some (.int cv), some (.int P.2), none, none] [] := by
      intro bc bs g1 g2
      refine zr_goto (tgt := 2173) hO dL_law_621 (by decide) ?_
      exact t_end H hn hq2 hu2 (by omega) g1 g2
    refine zr_if_ne (tgt := 621) hO dL_law_606 (by decide) (fun c9 => fin _ _ (by omega) (by omega)) (fun c8 => ?_)
    refine zr_aload_3 hO dL_law_609 ?_
    refine zr_iconst (v := 0) hO dL_law_610 (by decide) ?_
    refine zr_lald hO hw (zin_i ⟨by decide, by decide⟩) dL_law_611 ?_
    refine zV_pc (pc' := 612) rfl ?_
    refine zr_iload_6 hO dL_law_612 ?_
    refine zr_i2l hO dL_law_614 ?_
    refine zV_pc (pc' := 615) rfl ?_
    refine zr_lcmp_eq (tgt := 621) hO dL_law_615 dL_law_616 (by decide) (fun c7 => fin _ _ (by omega) (by omega)) (fun c7 => absurd (hval c8) c7)
  refine zr_aload_1 hO dL_law_544 ?_
  refine zr_aload_0 hO dL_law_545 ?_
  refine zr_iload_4 hO dL_law_546 ?_
  refine zr_iconst (v := 1) hO dL_law_548 (by decide) ?_
  refine zr_iadd hO dL_law_549 ?_
  refine zV_pc (pc' := 550) rfl ?_
  refine zr_sld hO (by rw [nI_1]; exact sidx hLL hi (by decide)) dL_law_550 ?_
  refine zr_aload_0 hO dL_law_551 ?_
  refine zr_iload_4 hO dL_law_552 ?_
  refine zr_iconst (v := 2) hO dL_law_554 (by decide) ?_
  refine zr_iadd hO dL_law_555 ?_
  refine zV_pc (pc' := 556) rfl ?_
  refine zr_sld hO (by rw [nI_2]; exact sidx hLL hi (by decide)) dL_law_556 ?_
  refine zr_aload_0 hO dL_law_557 ?_
  refine zr_iload_4 hO dL_law_558 ?_
  refine zr_iconst (v := 3) hO dL_law_560 (by decide) ?_
  refine zr_iadd hO dL_law_561 ?_
  refine zV_pc (pc' := 562) rfl ?_
  refine zr_sld hO (by rw [nI_3]; exact sidx hLL hi (by decide)) dL_law_562 ?_
  refine zr_aload_3 hO dL_law_563 ?_
  rw [st3_A]
  rcases hR : cP_addStep A (G.2.2.2.2.2 (ix (nI i + 1))) (G.2.2.2.2.2 (ix (nI i + 2))) (G.2.2.2.2.2 (ix (nI i + 3))) with q9 | E9
  · rw [hR] at ag
    obtain ⟨g1, g2, g3⟩ := ag
    refine zV_pc (pc' := 564) rfl ?_
    refine z_callSH (As := [.ref x, .int (G.2.2.2.2.2 (ix (nI i + 1))), .int (G.2.2.2.2.2 (ix (nI i + 2))), .int (G.2.2.2.2.2 (ix (nI i + 3))), .ref w]) hO hRm hL (by omega) (by decide) rfl (e_L_addStep (d := D - 1) htr hX hA hw (fun E h => by rw [hR] at h; cases h) (by omega)) zl_L_136 zt_L_addStep zc_L_addStep rfl zn_L zd_L_addStep (Nat.le_of_ble_eq_true rfl) dL_law_564 (by omega) (by omega) (fun E z ly9 τ9 σ9 h => ?_) (fun v z ly9 τ9 σ9 h => ?_)
    · obtain ⟨h1, rfl, h4⟩ := h
      rw [hR] at h4
      exact absurd h4.1 (by simp)
    · obtain ⟨h1, rfl, h4⟩ := h
      rw [hR] at h4
      obtain ⟨h5, rfl, rfl⟩ := h4
      cases h5
      refine zV_S (S' := fun z => n ≤ z) (fun z9 e9 => by subst e9; exact h1) ?_
      rw [← st3_A]
      refine zV_pc (pc' := 567) rfl ?_
      exact rest 0 _ _ _ g2 (fun _ => by rw [← g1]; exact zupL_at _ _ _ _) g3 hU
  · rw [hR] at ag
    obtain ⟨g0, g2, g3⟩ := ag
    refine zV_pc (pc' := 564) rfl ?_
    refine z_callSH (As := [.ref x, .int (G.2.2.2.2.2 (ix (nI i + 1))), .int (G.2.2.2.2.2 (ix (nI i + 2))), .int (G.2.2.2.2.2 (ix (nI i + 3))), .ref w]) hO hRm hL (by omega) (by decide) rfl (e_L_addStep (d := D - 1) htr hX hA hw (fun E h => by rw [hR] at h; cases h; exact g0) (by omega)) zl_L_136 zt_L_addStep zc_L_addStep rfl zn_L zd_L_addStep (Nat.le_of_ble_eq_true rfl) dL_law_564 (by omega) (by omega) (fun E z ly9 τ9 σ9 h => ?_) (fun v z ly9 τ9 σ9 h => ?_)
    · obtain ⟨h1, rfl, h4⟩ := h
      rw [hR] at h4
      exact absurd h4.1 (by simp)
    · obtain ⟨h1, rfl, h4⟩ := h
      rw [hR] at h4
      obtain ⟨h5, rfl, rfl⟩ := h4
      cases h5
      refine zV_S (S' := fun z => n ≤ z) (fun z9 e9 => by subst e9; exact h1) ?_
      rw [← st3_A]
      refine zV_pc (pc' := 567) rfl ?_
      exact rest _ _ _ _ g2 (fun h0 => absurd h0 (by simp only [LXAS, List.mem_cons, List.not_mem_nil, or_false] at g0; rcases g0 with rfl | rfl | rfl <;> decide)) g3 hU
set_option maxRecDepth 100000 in
set_option maxHeartbeats 1000000 in
theorem tu_start {G : zGm} {X : zCx} {l : Launch} {D x w n j i nn K : Nat} {ly : zLy} {τ : zTu} {σ A B M : zSg} (H : zLw G X l D ly x w n) (hn : zHead G X ly σ x w n j (i + 4)) (hQ : zQR nn K A M) (hU : zU B) (hK : K + 160 * (j + 1) + 240 ≤ 190000) (hi : i + 4 ≤ G.2.2.2.2.1) : zV G X 9 (300 * (j + 1)) (2500 * (j + 1)) (fun z => n ≤ z) ly τ (st3 σ x A B M) 624 [some (.ref G.2.2.2.1), some (.ref x), some (.ref (x + 191)), some (.ref w), some (.int (nI i)), none, none, none, none] [] := by
  obtain ⟨⟨hO, hRm, hL, hD, htr⟩, ⟨hX, hA, hB, hM, hw⟩, ⟨hxw, hwn⟩, hz, hLL⟩ := id H
  have hQ0 := zQR_0 hQ 0
  have hW := zI_W hQ.1
  have ag := c_start hQ (G.2.2.2.2.2 (ix (nI i + 1)))
  obtain ⟨P, eP⟩ : ∃ P, P = (mP_start M (G.2.2.2.2.2 (ix (nI i + 1)))) := ⟨_, rfl⟩
  rw [← eP] at ag
  have rest : ∀ (cv : Int32) (τ2 : zTu) (A2 B2 : zSg), P.1 0 0 = cv → (cv = 0 → τ2 w 0 = P.2.toInt64) → (∃ n', zQR n' K A2 P.1) → zU B2 → zV G X 9 (300 * (j + 1) - 1) (2500 * (j + 1) - 6) (fun z => n ≤ z) ly τ2 (st3 σ x A2 B2 M) 635 [some (.ref G.2.2.2.1), some (.ref x), some (.ref (x + 191)), some (.ref w), some (.int (nI i)), none, none, none, none] [.int cv] := by
    intro cv τ2 A2 B2 hcv hval hq2 hu2
    obtain ⟨n', hq2⟩ := hq2
    refine zr_istore_5 hO dL_law_635 (by decide) rfl ?_
    refine zr_aload_2 hO dL_law_637 ?_
    refine zr_aload_0 hO dL_law_638 ?_
    refine zr_iload_4 hO dL_law_639 ?_
    refine zr_iconst (v := 1) hO dL_law_641 (by decide) ?_
    refine zr_iadd hO dL_law_642 ?_
    refine zV_pc (pc' := 643) rfl ?_
    refine zr_sld hO (by rw [nI_1]; exact sidx hLL hi (by decide)) dL_law_643 ?_
    rw [st3_M]
    refine zV_pc (pc' := 644) rfl ?_
    refine zr_V1 (D := D) hO hRm hL (by omega) (by decide) (c := 7) (by decide) (zM_0 hM) rfl rfl (e_X7_start (d := D - 1) htr hM (by omega) hW) zl_L_141 zi_X7_start zs_X7_start zc_X7_start zn_X7 zd_X7_start (Nat.le_of_ble_eq_true rfl) dL_law_644 (by omega) (by omega) ?_
    rw [← eP]
    rw [← st3_M]
    refine zV_pc (pc' := 647) rfl ?_
    refine zr_istore_6 hO dL_law_647 (by decide) rfl ?_
    refine zr_aload_2 hO dL_law_649 ?_
    rw [st3_M]
    refine zV_pc (pc' := 650) rfl ?_
    refine zr_V0 (D := D) hO hRm hL (by omega) (by decide) (c := 7) (by decide) (zM_0 hM) rfl rfl (e_X7_thrown (d := D - 1) htr hM (by omega)) zl_L_118 zi_X7_thrown zs_X7_thrown zc_X7_thrown zn_X7 zd_X7_thrown (Nat.le_of_ble_eq_true rfl) dL_law_650 (by omega) (by omega) ?_
    rw [← st3_M]
    refine zV_pc (pc' := 653) rfl ?_
    refine zr_iload_5 hO dL_law_653 ?_
    refine zr_icmp_eq (tgt := 660) hO dL_law_655 (by decide) (fun c9 => ?_) (fun c9 => absurd hcv c9)
    refine zr_iload_5 hO dL_law_660 ?_
    have fin : ∀ bc bs, 300 * j ≤ bc → 2500 * j ≤ bs → zV G X 9 bc bs (fun z => n ≤ z) ly τ2 (st3 σ x A2 B2 P.1) 677 [some (.ref G.2.2.2.1), some (.ref x), some (.ref (x + 191)), some (.ref w), some (.int (nI i)), some (.int cv), some (.int P.2), none, none] [] := by
      intro bc bs g1 g2
      refine zr_goto (tgt := 2173) hO dL_law_677 (by decide) ?_
      exact t_end H hn hq2 hu2 (by omega) g1 g2
    refine zr_if_ne (tgt := 677) hO dL_law_662 (by decide) (fun c9 => fin _ _ (by omega) (by omega)) (fun c8 => ?_)
    refine zr_aload_3 hO dL_law_665 ?_
    refine zr_iconst (v := 0) hO dL_law_666 (by decide) ?_
    refine zr_lald hO hw (zin_i ⟨by decide, by decide⟩) dL_law_667 ?_
    refine zV_pc (pc' := 668) rfl ?_
    refine zr_iload_6 hO dL_law_668 ?_
    refine zr_i2l hO dL_law_670 ?_
    refine zV_pc (pc' := 671) rfl ?_
    refine zr_lcmp_eq (tgt := 677) hO dL_law_671 dL_law_672 (by decide) (fun c7 => fin _ _ (by omega) (by omega)) (fun c7 => absurd (hval c8) c7)
  refine zr_aload_1 hO dL_law_624 ?_
  refine zr_aload_0 hO dL_law_625 ?_
  refine zr_iload_4 hO dL_law_626 ?_
  refine zr_iconst (v := 1) hO dL_law_628 (by decide) ?_
  refine zr_iadd hO dL_law_629 ?_
  refine zV_pc (pc' := 630) rfl ?_
  refine zr_sld hO (by rw [nI_1]; exact sidx hLL hi (by decide)) dL_law_630 ?_
  refine zr_aload_3 hO dL_law_631 ?_
  rw [st3_A]
  rcases hR : cP_start A (G.2.2.2.2.2 (ix (nI i + 1))) with q9 | E9
  · rw [hR] at ag
    obtain ⟨g1, g2, g3⟩ := ag
    refine zV_pc (pc' := 632) rfl ?_
    refine z_callSH (As := [.ref x, .int (G.2.2.2.2.2 (ix (nI i + 1))), .ref w]) hO hRm hL (by omega) (by decide) rfl (e_L_start (d := D - 1) htr hX hA hw (fun E h => by rw [hR] at h; cases h) (by omega)) zl_L_139 zt_L_start zc_L_start rfl zn_L zd_L_start (Nat.le_of_ble_eq_true rfl) dL_law_632 (by omega) (by omega) (fun E z ly9 τ9 σ9 h => ?_) (fun v z ly9 τ9 σ9 h => ?_)
    · obtain ⟨h1, rfl, h4⟩ := h
      rw [hR] at h4
      exact absurd h4.1 (by simp)
    · obtain ⟨h1, rfl, h4⟩ := h
      rw [hR] at h4
      obtain ⟨h5, rfl, rfl⟩ := h4
      cases h5
      refine zV_S (S' := fun z => n ≤ z) (fun z9 e9 => by subst e9; exact h1) ?_
      rw [← st3_A]
      refine zV_pc (pc' := 635) rfl ?_
      exact rest 0 _ _ _ g2 (fun _ => by rw [← g1]; exact zupL_at _ _ _ _) g3 hU
  · rw [hR] at ag
    obtain ⟨g0, g2, g3⟩ := ag
    refine zV_pc (pc' := 632) rfl ?_
    refine z_callSH (As := [.ref x, .int (G.2.2.2.2.2 (ix (nI i + 1))), .ref w]) hO hRm hL (by omega) (by decide) rfl (e_L_start (d := D - 1) htr hX hA hw (fun E h => by rw [hR] at h; cases h; exact g0) (by omega)) zl_L_139 zt_L_start zc_L_start rfl zn_L zd_L_start (Nat.le_of_ble_eq_true rfl) dL_law_632 (by omega) (by omega) (fun E z ly9 τ9 σ9 h => ?_) (fun v z ly9 τ9 σ9 h => ?_)
    · obtain ⟨h1, rfl, h4⟩ := h
      rw [hR] at h4
      exact absurd h4.1 (by simp)
    · obtain ⟨h1, rfl, h4⟩ := h
      rw [hR] at h4
      obtain ⟨h5, rfl, rfl⟩ := h4
      cases h5
      refine zV_S (S' := fun z => n ≤ z) (fun z9 e9 => by subst e9; exact h1) ?_
      rw [← st3_A]
      refine zV_pc (pc' := 635) rfl ?_
      exact rest _ _ _ _ g2 (fun h0 => absurd h0 (by simp only [LXS, List.mem_cons, List.not_mem_nil, or_false] at g0; rcases g0 with rfl | rfl <;> decide)) g3 hU
set_option maxRecDepth 100000 in
set_option maxHeartbeats 1000000 in
theorem tu_setRank {G : zGm} {X : zCx} {l : Launch} {D x w n j i nn K : Nat} {ly : zLy} {τ : zTu} {σ A B M : zSg} (H : zLw G X l D ly x w n) (hn : zHead G X ly σ x w n j (i + 4)) (hQ : zQR nn K A M) (hU : zU B) (hK : K + 160 * (j + 1) + 240 ≤ 190000) (hi : i + 4 ≤ G.2.2.2.2.1) : zV G X 9 (300 * (j + 1)) (2500 * (j + 1)) (fun z => n ≤ z) ly τ (st3 σ x A B M) 680 [some (.ref G.2.2.2.1), some (.ref x), some (.ref (x + 191)), some (.ref w), some (.int (nI i)), none, none, none, none] [] := by
  obtain ⟨⟨hO, hRm, hL, hD, htr⟩, ⟨hX, hA, hB, hM, hw⟩, ⟨hxw, hwn⟩, hz, hLL⟩ := id H
  have hQ0 := zQR_0 hQ 0
  have hW := zI_W hQ.1
  have ag := c_setRank hQ (G.2.2.2.2.2 (ix (nI i + 1))) (G.2.2.2.2.2 (ix (nI i + 2)))
  obtain ⟨P, eP⟩ : ∃ P, P = (mP_setRank M (G.2.2.2.2.2 (ix (nI i + 1))) (G.2.2.2.2.2 (ix (nI i + 2)))) := ⟨_, rfl⟩
  rw [← eP] at ag
  have rest : ∀ (cv : Int32) (τ2 : zTu) (A2 B2 : zSg), P.1 0 0 = cv → (cv = 0 → τ2 w 0 = P.2.toInt64) → (∃ n', zQR n' K A2 P.1) → zU B2 → zV G X 9 (300 * (j + 1) - 1) (2500 * (j + 1) - 6) (fun z => n ≤ z) ly τ2 (st3 σ x A2 B2 M) 697 [some (.ref G.2.2.2.1), some (.ref x), some (.ref (x + 191)), some (.ref w), some (.int (nI i)), none, none, none, none] [.int cv] := by
    intro cv τ2 A2 B2 hcv hval hq2 hu2
    obtain ⟨n', hq2⟩ := hq2
    refine zr_istore_5 hO dL_law_697 (by decide) rfl ?_
    refine zr_aload_2 hO dL_law_699 ?_
    refine zr_aload_0 hO dL_law_700 ?_
    refine zr_iload_4 hO dL_law_701 ?_
    refine zr_iconst (v := 1) hO dL_law_703 (by decide) ?_
    refine zr_iadd hO dL_law_704 ?_
    refine zV_pc (pc' := 705) rfl ?_
    refine zr_sld hO (by rw [nI_1]; exact sidx hLL hi (by decide)) dL_law_705 ?_
    refine zr_aload_0 hO dL_law_706 ?_
    refine zr_iload_4 hO dL_law_707 ?_
    refine zr_iconst (v := 2) hO dL_law_709 (by decide) ?_
    refine zr_iadd hO dL_law_710 ?_
    refine zV_pc (pc' := 711) rfl ?_
    refine zr_sld hO (by rw [nI_2]; exact sidx hLL hi (by decide)) dL_law_711 ?_
    rw [st3_M]
    refine zV_pc (pc' := 712) rfl ?_
    refine zr_V2 (D := D) hO hRm hL (by omega) (by decide) (c := 7) (by decide) (zM_0 hM) rfl rfl (e_X7_setRank (d := D - 1) htr hM (by omega) hW) zl_L_144 zi_X7_setRank zs_X7_setRank zc_X7_setRank zn_X7 zd_X7_setRank (Nat.le_of_ble_eq_true rfl) dL_law_712 (by omega) (by omega) ?_
    rw [← eP]
    rw [← st3_M]
    refine zV_pc (pc' := 715) rfl ?_
    refine zr_istore_6 hO dL_law_715 (by decide) rfl ?_
    refine zr_aload_2 hO dL_law_717 ?_
    rw [st3_M]
    refine zV_pc (pc' := 718) rfl ?_
    refine zr_V0 (D := D) hO hRm hL (by omega) (by decide) (c := 7) (by decide) (zM_0 hM) rfl rfl (e_X7_thrown (d := D - 1) htr hM (by omega)) zl_L_118 zi_X7_thrown zs_X7_thrown zc_X7_thrown zn_X7 zd_X7_thrown (Nat.le_of_ble_eq_true rfl) dL_law_718 (by omega) (by omega) ?_
    rw [← st3_M]
    refine zV_pc (pc' := 721) rfl ?_
    refine zr_iload_5 hO dL_law_721 ?_
    refine zr_icmp_eq (tgt := 728) hO dL_law_723 (by decide) (fun c9 => ?_) (fun c9 => absurd hcv c9)
    refine zr_iload_5 hO dL_law_728 ?_
    have fin : ∀ bc bs, 300 * j ≤ bc → 2500 * j ≤ bs → zV G X 9 bc bs (fun z => n ≤ z) ly τ2 (st3 σ x A2 B2 P.1) 745 [some (.ref G.2.2.2.1), some (.ref x), some (.ref (x + 191)), some (.ref w), some (.int (nI i)), some (.int cv), some (.int P.2), none, none] [] := by
      intro bc bs g1 g2
      refine zr_goto (tgt := 2173) hO dL_law_745 (by decide) ?_
      exact t_end H hn hq2 hu2 (by omega) g1 g2
    refine zr_if_ne (tgt := 745) hO dL_law_730 (by decide) (fun c9 => fin _ _ (by omega) (by omega)) (fun c8 => ?_)
    refine zr_aload_3 hO dL_law_733 ?_
    refine zr_iconst (v := 0) hO dL_law_734 (by decide) ?_
    refine zr_lald hO hw (zin_i ⟨by decide, by decide⟩) dL_law_735 ?_
    refine zV_pc (pc' := 736) rfl ?_
    refine zr_iload_6 hO dL_law_736 ?_
    refine zr_i2l hO dL_law_738 ?_
    refine zV_pc (pc' := 739) rfl ?_
    refine zr_lcmp_eq (tgt := 745) hO dL_law_739 dL_law_740 (by decide) (fun c7 => fin _ _ (by omega) (by omega)) (fun c7 => absurd (hval c8) c7)
  refine zr_aload_1 hO dL_law_680 ?_
  refine zr_aload_0 hO dL_law_681 ?_
  refine zr_iload_4 hO dL_law_682 ?_
  refine zr_iconst (v := 1) hO dL_law_684 (by decide) ?_
  refine zr_iadd hO dL_law_685 ?_
  refine zV_pc (pc' := 686) rfl ?_
  refine zr_sld hO (by rw [nI_1]; exact sidx hLL hi (by decide)) dL_law_686 ?_
  refine zr_aload_0 hO dL_law_687 ?_
  refine zr_iload_4 hO dL_law_688 ?_
  refine zr_iconst (v := 2) hO dL_law_690 (by decide) ?_
  refine zr_iadd hO dL_law_691 ?_
  refine zV_pc (pc' := 692) rfl ?_
  refine zr_sld hO (by rw [nI_2]; exact sidx hLL hi (by decide)) dL_law_692 ?_
  refine zr_aload_3 hO dL_law_693 ?_
  rw [st3_A]
  rcases hR : cP_setRank A (G.2.2.2.2.2 (ix (nI i + 1))) (G.2.2.2.2.2 (ix (nI i + 2))) with q9 | E9
  · rw [hR] at ag
    obtain ⟨g1, g2, g3⟩ := ag
    refine zV_pc (pc' := 694) rfl ?_
    refine z_callSH (As := [.ref x, .int (G.2.2.2.2.2 (ix (nI i + 1))), .int (G.2.2.2.2.2 (ix (nI i + 2))), .ref w]) hO hRm hL (by omega) (by decide) rfl (e_L_setRank (d := D - 1) htr hX hA hw (fun E h => by rw [hR] at h; cases h) (by omega)) zl_L_142 zt_L_setRank zc_L_setRank rfl zn_L zd_L_setRank (Nat.le_of_ble_eq_true rfl) dL_law_694 (by omega) (by omega) (fun E z ly9 τ9 σ9 h => ?_) (fun v z ly9 τ9 σ9 h => ?_)
    · obtain ⟨h1, rfl, h4⟩ := h
      rw [hR] at h4
      exact absurd h4.1 (by simp)
    · obtain ⟨h1, rfl, h4⟩ := h
      rw [hR] at h4
      obtain ⟨h5, rfl, rfl⟩ := h4
      cases h5
      refine zV_S (S' := fun z => n ≤ z) (fun z9 e9 => by subst e9; exact h1) ?_
      rw [← st3_A]
      refine zV_pc (pc' := 697) rfl ?_
      exact rest 0 _ _ _ g2 (fun _ => by rw [← g1]; exact zupL_at _ _ _ _) g3 hU
  · rw [hR] at ag
    obtain ⟨g0, g2, g3⟩ := ag
    refine zV_pc (pc' := 694) rfl ?_
    refine z_callSH (As := [.ref x, .int (G.2.2.2.2.2 (ix (nI i + 1))), .int (G.2.2.2.2.2 (ix (nI i + 2))), .ref w]) hO hRm hL (by omega) (by decide) rfl (e_L_setRank (d := D - 1) htr hX hA hw (fun E h => by rw [hR] at h; cases h; exact g0) (by omega)) zl_L_142 zt_L_setRank zc_L_setRank rfl zn_L zd_L_setRank (Nat.le_of_ble_eq_true rfl) dL_law_694 (by omega) (by omega) (fun E z ly9 τ9 σ9 h => ?_) (fun v z ly9 τ9 σ9 h => ?_)
    · obtain ⟨h1, rfl, h4⟩ := h
      rw [hR] at h4
      exact absurd h4.1 (by simp)
    · obtain ⟨h1, rfl, h4⟩ := h
      rw [hR] at h4
      obtain ⟨h5, rfl, rfl⟩ := h4
      cases h5
      refine zV_S (S' := fun z => n ≤ z) (fun z9 e9 => by subst e9; exact h1) ?_
      rw [← st3_A]
      refine zV_pc (pc' := 697) rfl ?_
      exact rest _ _ _ _ g2 (fun h0 => absurd h0 (by simp only [LXA, List.mem_cons, List.not_mem_nil, or_false] at g0; rcases g0 with rfl | rfl <;> decide)) g3 hU
set_option maxRecDepth 100000 in
set_option maxHeartbeats 1000000 in
theorem tu_end {G : zGm} {X : zCx} {l : Launch} {D x w n j i nn K : Nat} {ly : zLy} {τ : zTu} {σ A B M : zSg} (H : zLw G X l D ly x w n) (hn : zHead G X ly σ x w n j (i + 4)) (hQ : zQR nn K A M) (hU : zU B) (hK : K + 160 * (j + 1) + 240 ≤ 190000) (hi : i + 4 ≤ G.2.2.2.2.1) : zV G X 9 (300 * (j + 1)) (2500 * (j + 1)) (fun z => n ≤ z) ly τ (st3 σ x A B M) 748 [some (.ref G.2.2.2.1), some (.ref x), some (.ref (x + 191)), some (.ref w), some (.int (nI i)), none, none, none, none] [] := by
  obtain ⟨⟨hO, hRm, hL, hD, htr⟩, ⟨hX, hA, hB, hM, hw⟩, ⟨hxw, hwn⟩, hz, hLL⟩ := id H
  have hQ0 := zQR_0 hQ 0
  have hW := zI_W hQ.1
  have ag := c_end hQ (G.2.2.2.2.2 (ix (nI i + 1)))
  obtain ⟨P, eP⟩ : ∃ P, P = (mP_end M (G.2.2.2.2.2 (ix (nI i + 1)))) := ⟨_, rfl⟩
  rw [← eP] at ag
  have rest : ∀ (cv : Int32) (τ2 : zTu) (A2 B2 : zSg), P.1 0 0 = cv → (cv = 0 → τ2 w 0 = P.2.toInt64) → (∃ n', zQR n' K A2 P.1) → zU B2 → zV G X 9 (300 * (j + 1) - 1) (2500 * (j + 1) - 6) (fun z => n ≤ z) ly τ2 (st3 σ x A2 B2 M) 759 [some (.ref G.2.2.2.1), some (.ref x), some (.ref (x + 191)), some (.ref w), some (.int (nI i)), none, none, none, none] [.int cv] := by
    intro cv τ2 A2 B2 hcv hval hq2 hu2
    obtain ⟨n', hq2⟩ := hq2
    refine zr_istore_5 hO dL_law_759 (by decide) rfl ?_
    refine zr_aload_2 hO dL_law_761 ?_
    refine zr_aload_0 hO dL_law_762 ?_
    refine zr_iload_4 hO dL_law_763 ?_
    refine zr_iconst (v := 1) hO dL_law_765 (by decide) ?_
    refine zr_iadd hO dL_law_766 ?_
    refine zV_pc (pc' := 767) rfl ?_
    refine zr_sld hO (by rw [nI_1]; exact sidx hLL hi (by decide)) dL_law_767 ?_
    rw [st3_M]
    refine zV_pc (pc' := 768) rfl ?_
    refine zr_V1 (D := D) hO hRm hL (by omega) (by decide) (c := 7) (by decide) (zM_0 hM) rfl rfl (e_X7_end (d := D - 1) htr hM (by omega) hW) zl_L_147 zi_X7_end zs_X7_end zc_X7_end zn_X7 zd_X7_end (Nat.le_of_ble_eq_true rfl) dL_law_768 (by omega) (by omega) ?_
    rw [← eP]
    rw [← st3_M]
    refine zV_pc (pc' := 771) rfl ?_
    refine zr_istore_6 hO dL_law_771 (by decide) rfl ?_
    refine zr_aload_2 hO dL_law_773 ?_
    rw [st3_M]
    refine zV_pc (pc' := 774) rfl ?_
    refine zr_V0 (D := D) hO hRm hL (by omega) (by decide) (c := 7) (by decide) (zM_0 hM) rfl rfl (e_X7_thrown (d := D - 1) htr hM (by omega)) zl_L_118 zi_X7_thrown zs_X7_thrown zc_X7_thrown zn_X7 zd_X7_thrown (Nat.le_of_ble_eq_true rfl) dL_law_774 (by omega) (by omega) ?_
    rw [← st3_M]
    refine zV_pc (pc' := 777) rfl ?_
    refine zr_iload_5 hO dL_law_777 ?_
    refine zr_icmp_eq (tgt := 784) hO dL_law_779 (by decide) (fun c9 => ?_) (fun c9 => absurd hcv c9)
    refine zr_iload_5 hO dL_law_784 ?_
    have fin : ∀ bc bs, 300 * j ≤ bc → 2500 * j ≤ bs → zV G X 9 bc bs (fun z => n ≤ z) ly τ2 (st3 σ x A2 B2 P.1) 801 [some (.ref G.2.2.2.1), some (.ref x), some (.ref (x + 191)), some (.ref w), some (.int (nI i)), some (.int cv), some (.int P.2), none, none] [] := by
      intro bc bs g1 g2
      refine zr_goto (tgt := 2173) hO dL_law_801 (by decide) ?_
      exact t_end H hn hq2 hu2 (by omega) g1 g2
    refine zr_if_ne (tgt := 801) hO dL_law_786 (by decide) (fun c9 => fin _ _ (by omega) (by omega)) (fun c8 => ?_)
    refine zr_aload_3 hO dL_law_789 ?_
    refine zr_iconst (v := 0) hO dL_law_790 (by decide) ?_
    refine zr_lald hO hw (zin_i ⟨by decide, by decide⟩) dL_law_791 ?_
    refine zV_pc (pc' := 792) rfl ?_
    refine zr_iload_6 hO dL_law_792 ?_
    refine zr_i2l hO dL_law_794 ?_
    refine zV_pc (pc' := 795) rfl ?_
    refine zr_lcmp_eq (tgt := 801) hO dL_law_795 dL_law_796 (by decide) (fun c7 => fin _ _ (by omega) (by omega)) (fun c7 => absurd (hval c8) c7)
  refine zr_aload_1 hO dL_law_748 ?_
  refine zr_aload_0 hO dL_law_749 ?_
  refine zr_iload_4 hO dL_law_750 ?_
  refine zr_iconst (v := 1) hO dL_law_752 (by decide) ?_
  refine zr_iadd hO dL_law_753 ?_
  refine zV_pc (pc' := 754) rfl ?_
  refine zr_sld hO (by rw [nI_1]; exact sidx hLL hi (by decide)) dL_law_754 ?_
  refine zr_aload_3 hO dL_law_755 ?_
  rw [st3_A]
  rcases hR : cP_end A (G.2.2.2.2.2 (ix (nI i + 1))) with q9 | E9
  · rw [hR] at ag
    obtain ⟨g1, g2, g3⟩ := ag
    refine zV_pc (pc' := 756) rfl ?_
    refine z_callSH (As := [.ref x, .int (G.2.2.2.2.2 (ix (nI i + 1))), .ref w]) hO hRm hL (by omega) (by decide) rfl (e_L_end (d := D - 1) htr hX hA hw (fun E h => by rw [hR] at h; cases h) (by omega)) zl_L_145 zt_L_end zc_L_end rfl zn_L zd_L_end (Nat.le_of_ble_eq_true rfl) dL_law_756 (by omega) (by omega) (fun E z ly9 τ9 σ9 h => ?_) (fun v z ly9 τ9 σ9 h => ?_)
    · obtain ⟨h1, rfl, h4⟩ := h
      rw [hR] at h4
      exact absurd h4.1 (by simp)
    · obtain ⟨h1, rfl, h4⟩ := h
      rw [hR] at h4
      obtain ⟨h5, rfl, rfl⟩ := h4
      cases h5
      refine zV_S (S' := fun z => n ≤ z) (fun z9 e9 => by subst e9; exact h1) ?_
      rw [← st3_A]
      refine zV_pc (pc' := 759) rfl ?_
      exact rest 0 _ _ _ g2 (fun _ => by rw [← g1]; exact zupL_at _ _ _ _) g3 hU
  · rw [hR] at ag
    obtain ⟨g0, g2, g3⟩ := ag
    refine zV_pc (pc' := 756) rfl ?_
    refine z_callSH (As := [.ref x, .int (G.2.2.2.2.2 (ix (nI i + 1))), .ref w]) hO hRm hL (by omega) (by decide) rfl (e_L_end (d := D - 1) htr hX hA hw (fun E h => by rw [hR] at h; cases h; exact g0) (by omega)) zl_L_145 zt_L_end zc_L_end rfl zn_L zd_L_end (Nat.le_of_ble_eq_true rfl) dL_law_756 (by omega) (by omega) (fun E z ly9 τ9 σ9 h => ?_) (fun v z ly9 τ9 σ9 h => ?_)
    · obtain ⟨h1, rfl, h4⟩ := h
      rw [hR] at h4
      exact absurd h4.1 (by simp)
    · obtain ⟨h1, rfl, h4⟩ := h
      rw [hR] at h4
      obtain ⟨h5, rfl, rfl⟩ := h4
      cases h5
      refine zV_S (S' := fun z => n ≤ z) (fun z9 e9 => by subst e9; exact h1) ?_
      rw [← st3_A]
      refine zV_pc (pc' := 759) rfl ?_
      exact rest _ _ _ _ g2 (fun h0 => absurd h0 (by simp only [LXS, List.mem_cons, List.not_mem_nil, or_false] at g0; rcases g0 with rfl | rfl <;> decide)) g3 hU
set_option maxRecDepth 100000 in
set_option maxHeartbeats 1000000 in
theorem tu_signal {G : zGm} {X : zCx} {l : Launch} {D x w n j i nn K : Nat} {ly : zLy} {τ : zTu} {σ A B M : zSg} (H : zLw G X l D ly x w n) (hn : zHead G X ly σ x w n j (i + 4)) (hQ : zQR nn K A M) (hU : zU B) (hK : K + 160 * (j + 1) + 240 ≤ 190000) (hi : i + 4 ≤ G.2.2.2.2.1) : zV G X 9 (300 * (j + 1)) (2500 * (j + 1)) (fun z => n ≤ z) ly τ (st3 σ x A B M) 804 [some (.ref G.2.2.2.1), some (.ref x), some (.ref (x + 191)), some (.ref w), some (.int (nI i)), none, none, none, none] [] := by
  obtain ⟨⟨hO, hRm, hL, hD, htr⟩, ⟨hX, hA, hB, hM, hw⟩, ⟨hxw, hwn⟩, hz, hLL⟩ := id H
  have hQ0 := zQR_0 hQ 0
  have hW := zI_W hQ.1
  have ag := c_signal hQ (G.2.2.2.2.2 (ix (nI i + 1)))
  obtain ⟨P, eP⟩ : ∃ P, P = (mP_signal M (G.2.2.2.2.2 (ix (nI i + 1)))) := ⟨_, rfl⟩
  rw [← eP] at ag
  have rest : ∀ (cv : Int32) (τ2 : zTu) (A2 B2 : zSg), P.1 0 0 = cv → (cv = 0 → τ2 w 0 = P.2.toInt64) → (∃ n', zQR n' K A2 P.1) → zU B2 → zV G X 9 (300 * (j + 1) - 1) (2500 * (j + 1) - 6) (fun z => n ≤ z) ly τ2 (st3 σ x A2 B2 M) 815 [some (.ref G.2.2.2.1), some (.ref x), some (.ref (x + 191)), some (.ref w), some (.int (nI i)), none, none, none, none] [.int cv] := by
    intro cv τ2 A2 B2 hcv hval hq2 hu2
    obtain ⟨n', hq2⟩ := hq2
    refine zr_istore_5 hO dL_law_815 (by decide) rfl ?_
    refine zr_aload_2 hO dL_law_817 ?_
    refine zr_aload_0 hO dL_law_818 ?_
    refine zr_iload_4 hO dL_law_819 ?_
    refine zr_iconst (v := 1) hO dL_law_821 (by decide) ?_
    refine zr_iadd hO dL_law_822 ?_
    refine zV_pc (pc' := 823) rfl ?_
    refine zr_sld hO (by rw [nI_1]; exact sidx hLL hi (by decide)) dL_law_823 ?_
    rw [st3_M]
    refine zV_pc (pc' := 824) rfl ?_
    refine zr_V1 (D := D) hO hRm hL (by omega) (by decide) (c := 7) (by decide) (zM_0 hM) rfl rfl (e_X7_signal (d := D - 1) htr hM (by omega) hW) zl_L_150 zi_X7_signal zs_X7_signal zc_X7_signal zn_X7 zd_X7_signal (Nat.le_of_ble_eq_true rfl) dL_law_824 (by omega) (by omega) ?_
    rw [← eP]
    rw [← st3_M]
    refine zV_pc (pc' := 827) rfl ?_
    refine zr_istore_6 hO dL_law_827 (by decide) rfl ?_
    refine zr_aload_2 hO dL_law_829 ?_
    rw [st3_M]
    refine zV_pc (pc' := 830) rfl ?_
    refine zr_V0 (D := D) hO hRm hL (by omega) (by decide) (c := 7) (by decide) (zM_0 hM) rfl rfl (e_X7_thrown (d := D - 1) htr hM (by omega)) zl_L_118 zi_X7_thrown zs_X7_thrown zc_X7_thrown zn_X7 zd_X7_thrown (Nat.le_of_ble_eq_true rfl) dL_law_830 (by omega) (by omega) ?_
    rw [← st3_M]
    refine zV_pc (pc' := 833) rfl ?_
    refine zr_iload_5 hO dL_law_833 ?_
    refine zr_icmp_eq (tgt := 840) hO dL_law_835 (by decide) (fun c9 => ?_) (fun c9 => absurd hcv c9)
    refine zr_iload_5 hO dL_law_840 ?_
    have fin : ∀ bc bs, 300 * j ≤ bc → 2500 * j ≤ bs → zV G X 9 bc bs (fun z => n ≤ z) ly τ2 (st3 σ x A2 B2 P.1) 857 [some (.ref G.2.2.2.1), some (.ref x), some (.ref (x + 191)), some (.ref w), some (.int (nI i)), some (.int cv), some (.int P.2), none, none] [] := by
      intro bc bs g1 g2
      refine zr_goto (tgt := 2173) hO dL_law_857 (by decide) ?_
      exact t_end H hn hq2 hu2 (by omega) g1 g2
    refine zr_if_ne (tgt := 857) hO dL_law_842 (by decide) (fun c9 => fin _ _ (by omega) (by omega)) (fun c8 => ?_)
    refine zr_aload_3 hO dL_law_845 ?_
    refine zr_iconst (v := 0) hO dL_law_846 (by decide) ?_
    refine zr_lald hO hw (zin_i ⟨by decide, by decide⟩) dL_law_847 ?_
    refine zV_pc (pc' := 848) rfl ?_
    refine zr_iload_6 hO dL_law_848 ?_
    refine zr_i2l hO dL_law_850 ?_
    refine zV_pc (pc' := 851) rfl ?_
    refine zr_lcmp_eq (tgt := 857) hO dL_law_851 dL_law_852 (by decide) (fun c7 => fin _ _ (by omega) (by omega)) (fun c7 => absurd (hval c8) c7)
  refine zr_aload_1 hO dL_law_804 ?_
  refine zr_aload_0 hO dL_law_805 ?_
  refine zr_iload_4 hO dL_law_806 ?_
  refine zr_iconst (v := 1) hO dL_law_808 (by decide) ?_
  refine zr_iadd hO dL_law_809 ?_
  refine zV_pc (pc' := 810) rfl ?_
  refine zr_sld hO (by rw [nI_1]; exact sidx hLL hi (by decide)) dL_law_810 ?_
  refine zr_aload_3 hO dL_law_811 ?_
  rw [st3_A]
  rcases hR : cP_signal A (G.2.2.2.2.2 (ix (nI i + 1))) with q9 | E9
  · rw [hR] at ag
    obtain ⟨g1, g2, g3⟩ := ag
    refine zV_pc (pc' := 812) rfl ?_
    refine z_callSH (As := [.ref x, .int (G.2.2.2.2.2 (ix (nI i + 1))), .ref w]) hO hRm hL (by omega) (by decide) rfl (e_L_signal (d := D - 1) htr hX hA hw (fun E h => by rw [hR] at h; cases h) (by omega)) zl_L_148 zt_L_signal zc_L_signal rfl zn_L zd_L_signal (Nat.le_of_ble_eq_true rfl) dL_law_812 (by omega) (by omega) (fun E z ly9 τ9 σ9 h => ?_) (fun v z ly9 τ9 σ9 h => ?_)
    · obtain ⟨h1, rfl, h4⟩ := h
      rw [hR] at h4
      exact absurd h4.1 (by simp)
    · obtain ⟨h1, rfl, h4⟩ := h
      rw [hR] at h4
      obtain ⟨h5, rfl, rfl⟩ := h4
      cases h5
      refine zV_S (S' := fun z => n ≤ z) (fun z9 e9 => by subst e9; exact h1) ?_
      rw [← st3_A]
      refine zV_pc (pc' := 815) rfl ?_
      exact rest 0 _ _ _ g2 (fun _ => by rw [← g1]; exact zupL_at _ _ _ _) g3 hU
  · rw [hR] at ag
    obtain ⟨g0, g2, g3⟩ := ag
    refine zV_pc (pc' := 812) rfl ?_
    refine z_callSH (As := [.ref x, .int (G.2.2.2.2.2 (ix (nI i + 1))), .ref w]) hO hRm hL (by omega) (by decide) rfl (e_L_signal (d := D - 1) htr hX hA hw (fun E h => by rw [hR] at h; cases h; exact g0) (by omega)) zl_L_148 zt_L_signal zc_L_signal rfl zn_L zd_L_signal (Nat.le_of_ble_eq_true rfl) dL_law_812 (by omega) (by omega) (fun E z ly9 τ9 σ9 h => ?_) (fun v z ly9 τ9 σ9 h => ?_)
    · obtain ⟨h1, rfl, h4⟩ := h
      rw [hR] at h4
      exact absurd h4.1 (by simp)
    · obtain ⟨h1, rfl, h4⟩ := h
      rw [hR] at h4
      obtain ⟨h5, rfl, rfl⟩ := h4
      cases h5
      refine zV_S (S' := fun z => n ≤ z) (fun z9 e9 => by subst e9; exact h1) ?_
      rw [← st3_A]
      refine zV_pc (pc' := 815) rfl ?_
      exact rest _ _ _ _ g2 (fun h0 => absurd h0 (by simp only [LX, List.mem_cons, List.not_mem_nil, or_false] at g0; subst g0; decide)) g3 hU
set_option maxRecDepth 100000 in
set_option maxHeartbeats 1000000 in
theorem tu_tick {G : zGm} {X : zCx} {l : Launch} {D x w n j i nn K : Nat} {ly : zLy} {τ : zTu} {σ A B M : zSg} (H : zLw G X l D ly x w n) (hn : zHead G X ly σ x w n j (i + 4)) (hQ : zQR nn K A M) (hU : zU B) (hK : K + 160 * (j + 1) + 240 ≤ 190000) (hi : i + 4 ≤ G.2.2.2.2.1) : zV G X 9 (300 * (j + 1)) (2500 * (j + 1)) (fun z => n ≤ z) ly τ (st3 σ x A B M) 860 [some (.ref G.2.2.2.1), some (.ref x), some (.ref (x + 191)), some (.ref w), some (.int (nI i)), none, none, none, none] [] := by
  obtain ⟨⟨hO, hRm, hL, hD, htr⟩, ⟨hX, hA, hB, hM, hw⟩, ⟨hxw, hwn⟩, hz, hLL⟩ := id H
  have hQ0 := zQR_0 hQ 0
  have hW := zI_W hQ.1
  obtain ⟨P, eP, ag⟩ := c_tick (f := 17) hQ (by omega) (by decide) (G.2.2.2.2.2 (ix (nI i + 1)))
  have rest : ∀ (cv : Int32) (τ2 : zTu) (A2 B2 : zSg), P.1 0 0 = cv → (cv = 0 → τ2 w 0 = P.2.toInt64) → (∃ n', zQR n' (K + 160) A2 P.1) → zU B2 → zV G X 9 (300 * (j + 1) - 1) (2500 * (j + 1) - 6) (fun z => n ≤ z) ly τ2 (st3 σ x A2 B2 M) 871 [some (.ref G.2.2.2.1), some (.ref x), some (.ref (x + 191)), some (.ref w), some (.int (nI i)), none, none, none, none] [.int cv] := by
    intro cv τ2 A2 B2 hcv hval hq2 hu2
    obtain ⟨n', hq2⟩ := hq2
    refine zr_istore_5 hO dL_law_871 (by decide) rfl ?_
    refine zr_aload_2 hO dL_law_873 ?_
    refine zr_aload_0 hO dL_law_874 ?_
    refine zr_iload_4 hO dL_law_875 ?_
    refine zr_iconst (v := 1) hO dL_law_877 (by decide) ?_
    refine zr_iadd hO dL_law_878 ?_
    refine zV_pc (pc' := 879) rfl ?_
    refine zr_sld hO (by rw [nI_1]; exact sidx hLL hi (by decide)) dL_law_879 ?_
    rw [st3_M]
    refine zV_pc (pc' := 880) rfl ?_
    refine zr_V1 (D := D) hO hRm hL (by omega) (by decide) (c := 7) (by decide) (zM_0 hM) rfl rfl (e_X7_tick (d := D - 1) htr hM (by omega) hW (by omega) hz eP) zl_L_153 zi_X7_tick zs_X7_tick zc_X7_tick zn_X7 zd_X7_tick (Nat.le_of_ble_eq_true rfl) dL_law_880 (by omega) (by omega) ?_
    rw [← st3_M]
    refine zV_pc (pc' := 883) rfl ?_
    refine zr_istore_6 hO dL_law_883 (by decide) rfl ?_
    refine zr_aload_2 hO dL_law_885 ?_
    rw [st3_M]
    refine zV_pc (pc' := 886) rfl ?_
    refine zr_V0 (D := D) hO hRm hL (by omega) (by decide) (c := 7) (by decide) (zM_0 hM) rfl rfl (e_X7_thrown (d := D - 1) htr hM (by omega)) zl_L_118 zi_X7_thrown zs_X7_thrown zc_X7_thrown zn_X7 zd_X7_thrown (Nat.le_of_ble_eq_true rfl) dL_law_886 (by omega) (by omega) ?_
    rw [← st3_M]
    refine zV_pc (pc' := 889) rfl ?_
    refine zr_iload_5 hO dL_law_889 ?_
    refine zr_icmp_eq (tgt := 896) hO dL_law_891 (by decide) (fun c9 => ?_) (fun c9 => absurd hcv c9)
    refine zr_iload_5 hO dL_law_896 ?_
    have fin : ∀ bc bs, 300 * j ≤ bc → 2500 * j ≤ bs → zV G X 9 bc bs (fun z => n ≤ z) ly τ2 (st3 σ x A2 B2 P.1) 913 [some (.ref G.2.2.2.1), some (.ref x), some (.ref (x + 191)), some (.ref w), some (.int (nI i)), some (.int cv), some (.int P.2), none, none] [] := by
      intro bc bs g1 g2
      refine zr_goto (tgt := 2173) hO dL_law_913 (by decide) ?_
      exact t_end H hn hq2 hu2 (by omega) g1 g2
    refine zr_if_ne (tgt := 913) hO dL_law_898 (by decide) (fun c9 => fin _ _ (by omega) (by omega)) (fun c8 => ?_)
    refine zr_aload_3 hO dL_law_901 ?_
    refine zr_iconst (v := 0) hO dL_law_902 (by decide) ?_
    refine zr_lald hO hw (zin_i ⟨by decide, by decide⟩) dL_law_903 ?_
    refine zV_pc (pc' := 904) rfl ?_
    refine zr_iload_6 hO dL_law_904 ?_
    refine zr_i2l hO dL_law_906 ?_
    refine zV_pc (pc' := 907) rfl ?_
    refine zr_lcmp_eq (tgt := 913) hO dL_law_907 dL_law_908 (by decide) (fun c7 => fin _ _ (by omega) (by omega)) (fun c7 => absurd (hval c8) c7)
  refine zr_aload_1 hO dL_law_860 ?_
  refine zr_aload_0 hO dL_law_861 ?_
  refine zr_iload_4 hO dL_law_862 ?_
  refine zr_iconst (v := 1) hO dL_law_864 (by decide) ?_
  refine zr_iadd hO dL_law_865 ?_
  refine zV_pc (pc' := 866) rfl ?_
  refine zr_sld hO (by rw [nI_1]; exact sidx hLL hi (by decide)) dL_law_866 ?_
  refine zr_aload_3 hO dL_law_867 ?_
  rw [st3_A]
  rcases hR : cP_tick A (G.2.2.2.2.2 (ix (nI i + 1))) with q9 | E9
  · rw [hR] at ag
    obtain ⟨g1, g2, g3⟩ := ag
    refine zV_pc (pc' := 868) rfl ?_
    refine z_callSH (As := [.ref x, .int (G.2.2.2.2.2 (ix (nI i + 1))), .ref w]) hO hRm hL (by omega) (by decide) rfl (e_L_tick (d := D - 1) htr hX hA hw (fun E h => by rw [hR] at h; cases h) (by omega)) zl_L_151 zt_L_tick zc_L_tick rfl zn_L zd_L_tick (Nat.le_of_ble_eq_true rfl) dL_law_868 (by omega) (by omega) (fun E z ly9 τ9 σ9 h => ?_) (fun v z ly9 τ9 σ9 h => ?_)
    · obtain ⟨h1, rfl, h4⟩ := h
      rw [hR] at h4
      exact absurd h4.1 (by simp)
    · obtain ⟨h1, rfl, h4⟩ := h
      rw [hR] at h4
      obtain ⟨h5, rfl, rfl⟩ := h4
      cases h5
      refine zV_S (S' := fun z => n ≤ z) (fun z9 e9 => by subst e9; exact h1) ?_
      rw [← st3_A]
      refine zV_pc (pc' := 871) rfl ?_
      exact rest 0 _ _ _ g2 (fun _ => by rw [← g1]; exact zupL_at _ _ _ _) g3 hU
  · rw [hR] at ag
    obtain ⟨g0, g2, g3⟩ := ag
    refine zV_pc (pc' := 868) rfl ?_
    refine z_callSH (As := [.ref x, .int (G.2.2.2.2.2 (ix (nI i + 1))), .ref w]) hO hRm hL (by omega) (by decide) rfl (e_L_tick (d := D - 1) htr hX hA hw (fun E h => by rw [hR] at h; cases h; exact g0) (by omega)) zl_L_151 zt_L_tick zc_L_tick rfl zn_L zd_L_tick (Nat.le_of_ble_eq_true rfl) dL_law_868 (by omega) (by omega) (fun E z ly9 τ9 σ9 h => ?_) (fun v z ly9 τ9 σ9 h => ?_)
    · obtain ⟨h1, rfl, h4⟩ := h
      rw [hR] at h4
      exact absurd h4.1 (by simp)
    · obtain ⟨h1, rfl, h4⟩ := h
      rw [hR] at h4
      obtain ⟨h5, rfl, rfl⟩ := h4
      cases h5
      refine zV_S (S' := fun z => n ≤ z) (fun z9 e9 => by subst e9; exact h1) ?_
      rw [← st3_A]
      refine zV_pc (pc' := 871) rfl ?_
      exact rest _ _ _ _ g2 (fun h0 => absurd h0 (by simp only [LA, List.mem_cons, List.not_mem_nil, or_false] at g0; subst g0; decide)) g3 hU
set_option maxRecDepth 100000 in
set_option maxHeartbeats 1000000 in
theorem tu_clock {G : zGm} {X : zCx} {l : Launch} {D x w n j i nn K : Nat} {ly : zLy} {τ : zTu} {σ A B M : zSg} (H : zLw G X l D ly x w n) (hn : zHead G X ly σ x w n j (i + 4)) (hQ : zQR nn K A M) (hU : zU B) (hK : K + 160 * (j + 1) + 240 ≤ 190000) (hi : i + 4 ≤ G.2.2.2.2.1) : zV G X 9 (300 * (j + 1)) (2500 * (j + 1)) (fun z => n ≤ z) ly τ (st3 σ x A B M) 916 [some (.ref G.2.2.2.1), some (.ref x), some (.ref (x + 191)), some (.ref w), some (.int (nI i)), none, none, none, none] [] := by
  obtain ⟨⟨hO, hRm, hL, hD, htr⟩, ⟨hX, hA, hB, hM, hw⟩, ⟨hxw, hwn⟩, hz, hLL⟩ := id H
  have hQ0 := zQR_0 hQ 0
  have hW := zI_W hQ.1
  refine zr_aload_1 hO dL_law_916 ?_
  rw [st3_A]
  refine zr_V0 (D := D) hO hRm hL (by omega) (by decide) (c := 6) (by decide) hX rfl rfl (e_X6_clock (d := D - 1) htr hX hA (by omega)) zl_L_154 zi_X6_clock zs_X6_clock zc_X6_clock zn_X6 zd_X6_clock (Nat.le_of_ble_eq_true rfl) dL_law_917 (by omega) (by omega) ?_
  rw [← st3_A]
  refine zr_aload_2 hO dL_law_920 ?_
  rw [st3_M]
  refine zV_pc (pc' := 921) rfl ?_
  refine zr_V0 (D := D) hO hRm hL (by omega) (by decide) (c := 7) (by decide) (zM_0 hM) rfl rfl (e_X7_clock (d := D - 1) htr hM (by omega) hW) zl_L_157 zi_X7_clock zs_X7_clock zc_X7_clock zn_X7 zd_X7_clock (Nat.le_of_ble_eq_true rfl) dL_law_921 (by omega) (by omega) ?_
  rw [← st3_M]
  refine zV_pc (pc' := 924) rfl ?_
  refine zr_icmp_eq (tgt := 2173) hO dL_law_924 (by decide) (fun c9 => t_end H hn hQ0 hU (by omega) (by omega) (by omega)) (fun c9 => absurd (ze_clk (zI_E hQ0.1)) c9)
set_option maxRecDepth 100000 in
set_option maxHeartbeats 1000000 in
theorem tu_tasks {G : zGm} {X : zCx} {l : Launch} {D x w n j i nn K : Nat} {ly : zLy} {τ : zTu} {σ A B M : zSg} (H : zLw G X l D ly x w n) (hn : zHead G X ly σ x w n j (i + 4)) (hQ : zQR nn K A M) (hU : zU B) (hK : K + 160 * (j + 1) + 240 ≤ 190000) (hi : i + 4 ≤ G.2.2.2.2.1) : zV G X 9 (300 * (j + 1)) (2500 * (j + 1)) (fun z => n ≤ z) ly τ (st3 σ x A B M) 929 [some (.ref G.2.2.2.1), some (.ref x), some (.ref (x + 191)), some (.ref w), some (.int (nI i)), none, none, none, none] [] := by
  obtain ⟨⟨hO, hRm, hL, hD, htr⟩, ⟨hX, hA, hB, hM, hw⟩, ⟨hxw, hwn⟩, hz, hLL⟩ := id H
  have hQ0 := zQR_0 hQ 0
  have hW := zI_W hQ.1
  refine zr_aload_1 hO dL_law_929 ?_
  rw [st3_A]
  refine zr_V0 (D := D) hO hRm hL (by omega) (by decide) (c := 6) (by decide) hX rfl rfl (e_X6_tasks (d := D - 1) htr hX hA (by omega)) zl_L_158 zi_X6_tasks zs_X6_tasks zc_X6_tasks zn_X6 zd_X6_tasks (Nat.le_of_ble_eq_true rfl) dL_law_930 (by omega) (by omega) ?_
  rw [← st3_A]
  refine zr_aload_2 hO dL_law_933 ?_
  rw [st3_M]
  refine zV_pc (pc' := 934) rfl ?_
  refine zr_V0 (D := D) hO hRm hL (by omega) (by decide) (c := 7) (by decide) (zM_0 hM) rfl rfl (e_X7_tasks (d := D - 1) htr hM (by omega) hW) zl_L_161 zi_X7_tasks zs_X7_tasks zc_X7_tasks zn_X7 zd_X7_tasks (Nat.le_of_ble_eq_true rfl) dL_law_934 (by omega) (by omega) ?_
  rw [← st3_M]
  refine zV_pc (pc' := 937) rfl ?_
  refine zr_icmp_eq (tgt := 2173) hO dL_law_937 (by decide) (fun c9 => t_end H hn hQ0 hU (by omega) (by omega) (by omega)) (fun c9 => absurd (ze_n (zI_E hQ0.1)) c9)
set_option maxRecDepth 100000 in
set_option maxHeartbeats 1000000 in
theorem tu_stateOf {G : zGm} {X : zCx} {l : Launch} {D x w n j i nn K : Nat} {ly : zLy} {τ : zTu} {σ A B M : zSg} (H : zLw G X l D ly x w n) (hn : zHead G X ly σ x w n j (i + 4)) (hQ : zQR nn K A M) (hU : zU B) (hK : K + 160 * (j + 1) + 240 ≤ 190000) (hi : i + 4 ≤ G.2.2.2.2.1) : zV G X 9 (300 * (j + 1)) (2500 * (j + 1)) (fun z => n ≤ z) ly τ (st3 σ x A B M) 942 [some (.ref G.2.2.2.1), some (.ref x), some (.ref (x + 191)), some (.ref w), some (.int (nI i)), none, none, none, none] [] := by
  obtain ⟨⟨hO, hRm, hL, hD, htr⟩, ⟨hX, hA, hB, hM, hw⟩, ⟨hxw, hwn⟩, hz, hLL⟩ := id H
  have hQ0 := zQR_0 hQ 0
  have hW := zI_W hQ.1
  have ag := c_stateOf hQ (G.2.2.2.2.2 (ix (nI i + 1)))
  obtain ⟨P, eP⟩ : ∃ P, P = (mP_of M 41 (G.2.2.2.2.2 (ix (nI i + 1)))) := ⟨_, rfl⟩
  rw [← eP] at ag
  have rest : ∀ (cv : Int32) (τ2 : zTu) (A2 B2 : zSg), P.1 0 0 = cv → (cv = 0 → τ2 w 0 = P.2.toInt64) → (∃ n', zQR n' K A2 P.1) → zU B2 → zV G X 9 (300 * (j + 1) - 1) (2500 * (j + 1) - 6) (fun z => n ≤ z) ly τ2 (st3 σ x A2 B2 M) 953 [some (.ref G.2.2.2.1), some (.ref x), some (.ref (x + 191)), some (.ref w), some (.int (nI i)), none, none, none, none] [.int cv] := by
    intro cv τ2 A2 B2 hcv hval hq2 hu2
    obtain ⟨n', hq2⟩ := hq2
    refine zr_istore_5 hO dL_law_953 (by decide) rfl ?_
    refine zr_aload_2 hO dL_law_955 ?_
    refine zr_aload_0 hO dL_law_956 ?_
    refine zr_iload_4 hO dL_law_957 ?_
    refine zr_iconst (v := 1) hO dL_law_959 (by decide) ?_
    refine zr_iadd hO dL_law_960 ?_
    refine zV_pc (pc' := 961) rfl ?_
    refine zr_sld hO (by rw [nI_1]; exact sidx hLL hi (by decide)) dL_law_961 ?_
    rw [st3_M]
    refine zV_pc (pc' := 962) rfl ?_
    refine zr_V1 (D := D) hO hRm hL (by omega) (by decide) (c := 7) (by decide) (zM_0 hM) rfl rfl (e_X7_stateOf (d := D - 1) htr hM (by omega) hW) zl_L_164 zi_X7_stateOf zs_X7_stateOf zc_X7_stateOf zn_X7 zd_X7_stateOf (Nat.le_of_ble_eq_true rfl) dL_law_962 (by omega) (by omega) ?_
    rw [← eP]
    rw [← st3_M]
    refine zV_pc (pc' := 965) rfl ?_
    refine zr_istore_6 hO dL_law_965 (by decide) rfl ?_
    refine zr_aload_2 hO dL_law_967 ?_
    rw [st3_M]
    refine zV_pc (pc' := 968) rfl ?_
    refine zr_V0 (D := D) hO hRm hL (by omega) (by decide) (c := 7) (by decide) (zM_0 hM) rfl rfl (e_X7_thrown (d := D - 1) htr hM (by omega)) zl_L_118 zi_X7_thrown zs_X7_thrown zc_X7_thrown zn_X7 zd_X7_thrown (Nat.le_of_ble_eq_true rfl) dL_law_968 (by omega) (by omega) ?_
    rw [← st3_M]
    refine zV_pc (pc' := 971) rfl ?_
    refine zr_iload_5 hO dL_law_971 ?_
    refine zr_icmp_eq (tgt := 978) hO dL_law_973 (by decide) (fun c9 => ?_) (fun c9 => absurd hcv c9)
    refine zr_iload_5 hO dL_law_978 ?_
    have fin : ∀ bc bs, 300 * j ≤ bc → 2500 * j ≤ bs → zV G X 9 bc bs (fun z => n ≤ z) ly τ2 (st3 σ x A2 B2 P.1) 995 [some (.ref G.2.2.2.1), some (.ref x), some (.ref (x + 191)), some (.ref w), some (.int (nI i)), some (.int cv), some (.int P.2), none, none] [] := by
      intro bc bs g1 g2
      refine zr_goto (tgt := 2173) hO dL_law_995 (by decide) ?_
      exact t_end H hn hq2 hu2 (by omega) g1 g2
    refine zr_if_ne (tgt := 995) hO dL_law_980 (by decide) (fun c9 => fin _ _ (by omega) (by omega)) (fun c8 => ?_)
    refine zr_aload_3 hO dL_law_983 ?_
    refine zr_iconst (v := 0) hO dL_law_984 (by decide) ?_
    refine zr_lald hO hw (zin_i ⟨by decide, by decide⟩) dL_law_985 ?_
    refine zV_pc (pc' := 986) rfl ?_
    refine zr_iload_6 hO dL_law_986 ?_
    refine zr_i2l hO dL_law_988 ?_
    refine zV_pc (pc' := 989) rfl ?_
    refine zr_lcmp_eq (tgt := 995) hO dL_law_989 dL_law_990 (by decide) (fun c7 => fin _ _ (by omega) (by omega)) (fun c7 => absurd (hval c8) c7)
  refine zr_aload_1 hO dL_law_942 ?_
  refine zr_aload_0 hO dL_law_943 ?_
  refine zr_iload_4 hO dL_law_944 ?_
  refine zr_iconst (v := 1) hO dL_law_946 (by decide) ?_
  refine zr_iadd hO dL_law_947 ?_
  refine zV_pc (pc' := 948) rfl ?_
  refine zr_sld hO (by rw [nI_1]; exact sidx hLL hi (by decide)) dL_law_948 ?_
  refine zr_aload_3 hO dL_law_949 ?_
  rw [st3_A]
  rcases hR : cP_of A (G.2.2.2.2.2 (ix (nI i + 1))) (fun i => A (ztk i) 5) with q9 | E9
  · rw [hR] at ag
    obtain ⟨g1, g2, g3⟩ := ag
    refine zV_pc (pc' := 950) rfl ?_
    refine z_callSH (As := [.ref x, .int (G.2.2.2.2.2 (ix (nI i + 1))), .ref w]) hO hRm hL (by omega) (by decide) rfl (e_L_stateOf (d := D - 1) htr hX hA hw (fun E h => by rw [hR] at h; cases h) (by omega)) zl_L_162 zt_L_stateOf zc_L_stateOf rfl zn_L zd_L_stateOf (Nat.le_of_ble_eq_true rfl) dL_law_950 (by omega) (by omega) (fun E z ly9 τ9 σ9 h => ?_) (fun v z ly9 τ9 σ9 h => ?_)
    · obtain ⟨h1, rfl, h4⟩ := h
      rw [hR] at h4
      exact absurd h4.1 (by simp)
    · obtain ⟨h1, rfl, h4⟩ := h
      rw [hR] at h4
      obtain ⟨h5, rfl, rfl⟩ := h4
      cases h5
      refine zV_S (S' := fun z => n ≤ z) (fun z9 e9 => by subst e9; exact h1) ?_
      rw [← st3_A]
      refine zV_pc (pc' := 953) rfl ?_
      exact rest 0 _ _ _ g2 (fun _ => by rw [← g1]; exact zupL_at _ _ _ _) g3 hU
  · rw [hR] at ag
    obtain ⟨g0, g2, g3⟩ := ag
    refine zV_pc (pc' := 950) rfl ?_
    refine z_callSH (As := [.ref x, .int (G.2.2.2.2.2 (ix (nI i + 1))), .ref w]) hO hRm hL (by omega) (by decide) rfl (e_L_stateOf (d := D - 1) htr hX hA hw (fun E h => by rw [hR] at h; cases h; exact g0) (by omega)) zl_L_162 zt_L_stateOf zc_L_stateOf rfl zn_L zd_L_stateOf (Nat.le_of_ble_eq_true rfl) dL_law_950 (by omega) (by omega) (fun E z ly9 τ9 σ9 h => ?_) (fun v z ly9 τ9 σ9 h => ?_)
    · obtain ⟨h1, rfl, h4⟩ := h
      rw [hR] at h4
      exact absurd h4.1 (by simp)
    · obtain ⟨h1, rfl, h4⟩ := h
      rw [hR] at h4
      obtain ⟨h5, rfl, rfl⟩ := h4
      cases h5
      refine zV_S (S' := fun z => n ≤ z) (fun z9 e9 => by subst e9; exact h1) ?_
      rw [← st3_A]
      refine zV_pc (pc' := 953) rfl ?_
      exact rest _ _ _ _ g2 (fun h0 => absurd h0 (by simp only [LX, List.mem_cons, List.not_mem_nil, or_false] at g0; subst g0; decide)) g3 hU
set_option maxRecDepth 100000 in
set_option maxHeartbeats 1000000 in
theorem tu_stepOf {G : zGm} {X : zCx} {l : Launch} {D x w n j i nn K : Nat} {ly : zLy} {τ : zTu} {σ A B M : zSg} (H : zLw G X l D ly x w n) (hn : zHead G X ly σ x w n j (i + 4)) (hQ : zQR nn K A M) (hU : zU B) (hK : K + 160 * (j + 1) + 240 ≤ 190000) (hi : i + 4 ≤ G.2.2.2.2.1) : zV G X 9 (300 * (j + 1)) (2500 * (j + 1)) (fun z => n ≤ z) ly τ (st3 σ x A B M) 998 [some (.ref G.2.2.2.1), some (.ref x), some (.ref (x + 191)), some (.ref w), some (.int (nI i)), none, none, none, none] [] := by
  obtain ⟨⟨hO, hRm, hL, hD, htr⟩, ⟨hX, hA, hB, hM, hw⟩, ⟨hxw, hwn⟩, hz, hLL⟩ := id H
  have hQ0 := zQR_0 hQ 0
  have hW := zI_W hQ.1
  have ag := c_stepOf hQ (G.2.2.2.2.2 (ix (nI i + 1)))
  obtain ⟨P, eP⟩ : ∃ P, P = (mP_of M 42 (G.2.2.2.2.2 (ix (nI i + 1)))) := ⟨_, rfl⟩
  rw [← eP] at ag
  have rest : ∀ (cv : Int32) (τ2 : zTu) (A2 B2 : zSg), P.1 0 0 = cv → (cv = 0 → τ2 w 0 = P.2.toInt64) → (∃ n', zQR n' K A2 P.1) → zU B2 → zV G X 9 (300 * (j + 1) - 1) (2500 * (j + 1) - 6) (fun z => n ≤ z) ly τ2 (st3 σ x A2 B2 M) 1009 [some (.ref G.2.2.2.1), some (.ref x), some (.ref (x + 191)), some (.ref w), some (.int (nI i)), none, none, none, none] [.int cv] := by
    intro cv τ2 A2 B2 hcv hval hq2 hu2
    obtain ⟨n', hq2⟩ := hq2
    refine zr_istore_5 hO dL_law_1009 (by decide) rfl ?_
    refine zr_aload_2 hO dL_law_1011 ?_
    refine zr_aload_0 hO dL_law_1012 ?_
    refine zr_iload_4 hO dL_law_1013 ?_
    refine zr_iconst (v := 1) hO dL_law_1015 (by decide) ?_
    refine zr_iadd hO dL_law_1016 ?_
    refine zV_pc (pc' := 1017) rfl ?_
    refine zr_sld hO (by rw [nI_1]; exact sidx hLL hi (by decide)) dL_law_1017 ?_
    rw [st3_M]
    refine zV_pc (pc' := 1018) rfl ?_
    refine zr_V1 (D := D) hO hRm hL (by omega) (by decide) (c := 7) (by decide) (zM_0 hM) rfl rfl (e_X7_stepOf (d := D - 1) htr hM (by omega) hW) zl_L_167 zi_X7_stepOf zs_X7_stepOf zc_X7_stepOf zn_X7 zd_X7_stepOf (Nat.le_of_ble_eq_true rfl) dL_law_1018 (by omega) (by omega) ?_
    rw [← eP]
    rw [← st3_M]
    refine zV_pc (pc' := 1021) rfl ?_
    refine zr_istore_6 hO dL_law_1021 (by decide) rfl ?_
    refine zr_aload_2 hO dL_law_1023 ?_
    rw [st3_M]
    refine zV_pc (pc' := 1024) rfl ?_
    refine zr_V0 (D := D) hO hRm hL (by omega) (by decide) (c := 7) (by decide) (zM_0 hM) rfl rfl (e_X7_thrown (d := D - 1) htr hM (by omega)) zl_L_118 zi_X7_thrown zs_X7_thrown zc_X7_thrown zn_X7 zd_X7_thrown (Nat.le_of_ble_eq_true rfl) dL_law_1024 (by omega) (by omega) ?_
    rw [← st3_M]
    refine zV_pc (pc' := 1027) rfl ?_
    refine zr_iload_5 hO dL_law_1027 ?_
    refine zr_icmp_eq (tgt := 1034) hO dL_law_1029 (by decide) (fun c9 => ?_) (fun c9 => absurd hcv c9)
    refine zr_iload_5 hO dL_law_1034 ?_
    have fin : ∀ bc bs, 300 * j ≤ bc → 2500 * j ≤ bs → zV G X 9 bc bs (fun z => n ≤ z) ly τ2 (st3 σ x A2 B2 P.1) 1051 [some (.ref G.2.2.2.1), some (.ref x), some (.ref (x + 191)), some (.ref w), some (.int (nI i)), some (.int cv), some (.int P.2), none, none] [] := by
      intro bc bs g1 g2
      refine zr_goto (tgt := 2173) hO dL_law_1051 (by decide) ?_
      exact t_end H hn hq2 hu2 (by omega) g1 g2
    refine zr_if_ne (tgt := 1051) hO dL_law_1036 (by decide) (fun c9 => fin _ _ (by omega) (by omega)) (fun c8 => ?_)
    refine zr_aload_3 hO dL_law_1039 ?_
    refine zr_iconst (v := 0) hO dL_law_1040 (by decide) ?_
    refine zr_lald hO hw (zin_i ⟨by decide, by decide⟩) dL_law_1041 ?_
    refine zV_pc (pc' := 1042) rfl ?_
    refine zr_iload_6 hO dL_law_1042 ?_
    refine zr_i2l hO dL_law_1044 ?_
    refine zV_pc (pc' := 1045) rfl ?_
    refine zr_lcmp_eq (tgt := 1051) hO dL_law_1045 dL_law_1046 (by decide) (fun c7 => fin _ _ (by omega) (by omega)) (fun c7 => absurd (hval c8) c7)
  refine zr_aload_1 hO dL_law_998 ?_
  refine zr_aload_0 hO dL_law_999 ?_
  refine zr_iload_4 hO dL_law_1000 ?_
  refine zr_iconst (v := 1) hO dL_law_1002 (by decide) ?_
  refine zr_iadd hO dL_law_1003 ?_
  refine zV_pc (pc' := 1004) rfl ?_
  refine zr_sld hO (by rw [nI_1]; exact sidx hLL hi (by decide)) dL_law_1004 ?_
  refine zr_aload_3 hO dL_law_1005 ?_
  rw [st3_A]
  rcases hR : cP_of A (G.2.2.2.2.2 (ix (nI i + 1))) (fun i => cF_stepOf A i) with q9 | E9
  · rw [hR] at ag
    obtain ⟨g1, g2, g3⟩ := ag
    refine zV_pc (pc' := 1006) rfl ?_
    refine z_callSH (As := [.ref x, .int (G.2.2.2.2.2 (ix (nI i + 1))), .ref w]) hO hRm hL (by omega) (by decide) rfl (e_L_stepOf (d := D - 1) htr hX hA hw (fun E h => by rw [hR] at h; cases h) (by omega)) zl_L_165 zt_L_stepOf zc_L_stepOf rfl zn_L zd_L_stepOf (Nat.le_of_ble_eq_true rfl) dL_law_1006 (by omega) (by omega) (fun E z ly9 τ9 σ9 h => ?_) (fun v z ly9 τ9 σ9 h => ?_)
    · obtain ⟨h1, rfl, h4⟩ := h
      rw [hR] at h4
      exact absurd h4.1 (by simp)
    · obtain ⟨h1, rfl, h4⟩ := h
      rw [hR] at h4
      obtain ⟨h5, rfl, rfl⟩ := h4
      cases h5
      refine zV_S (S' := fun z => n ≤ z) (fun z9 e9 => by subst e9; exact h1) ?_
      rw [← st3_A]
      refine zV_pc (pc' := 1009) rfl ?_
      exact rest 0 _ _ _ g2 (fun _ => by rw [← g1]; exact zupL_at _ _ _ _) g3 hU
  · rw [hR] at ag
    obtain ⟨g0, g2, g3⟩ := ag
    refine zV_pc (pc' := 1006) rfl ?_
    refine z_callSH (As := [.ref x, .int (G.2.2.2.2.2 (ix (nI i + 1))), .ref w]) hO hRm hL (by omega) (by decide) rfl (e_L_stepOf (d := D - 1) htr hX hA hw (fun E h => by rw [hR] at h; cases h; exact g0) (by omega)) zl_L_165 zt_L_stepOf zc_L_stepOf rfl zn_L zd_L_stepOf (Nat.le_of_ble_eq_true rfl) dL_law_1006 (by omega) (by omega) (fun E z ly9 τ9 σ9 h => ?_) (fun v z ly9 τ9 σ9 h => ?_)
    · obtain ⟨h1, rfl, h4⟩ := h
      rw [hR] at h4
      exact absurd h4.1 (by simp)
    · obtain ⟨h1, rfl, h4⟩ := h
      rw [hR] at h4
      obtain ⟨h5, rfl, rfl⟩ := h4
      cases h5
      refine zV_S (S' := fun z => n ≤ z) (fun z9 e9 => by subst e9; exact h1) ?_
      rw [← st3_A]
      refine zV_pc (pc' := 1009) rfl ?_
      exact rest _ _ _ _ g2 (fun h0 => absurd h0 (by simp only [LX, List.mem_cons, List.not_mem_nil, or_false] at g0; subst g0; decide)) g3 hU
set_option maxRecDepth 100000 in
set_option maxHeartbeats 1000000 in
theorem tu_roundsOf {G : zGm} {X : zCx} {l : Launch} {D x w n j i nn K : Nat} {ly : zLy} {τ : zTu} {σ A B M : zSg} (H : zLw G X l D ly x w n) (hn : zHead G X ly σ x w n j (i + 4)) (hQ : zQR nn K A M) (hU : zU B) (hK : K + 160 * (j + 1) + 240 ≤ 190000) (hi : i + 4 ≤ G.2.2.2.2.1) : zV G X 9 (300 * (j + 1)) (2500 * (j + 1)) (fun z => n ≤ z) ly τ (st3 σ x A B M) 1054 [some (.ref G.2.2.2.1), some (.ref x), some (.ref (x + 191)), some (.ref w), some (.int (nI i)), none, none, none, none] [] := by
  obtain ⟨⟨hO, hRm, hL, hD, htr⟩, ⟨hX, hA, hB, hM, hw⟩, ⟨hxw, hwn⟩, hz, hLL⟩ := id H
  have hQ0 := zQR_0 hQ 0
  have hW := zI_W hQ.1
  have ag := c_roundsOf hQ (G.2.2.2.2.2 (ix (nI i + 1)))
  obtain ⟨P, eP⟩ : ∃ P, P = (mP_of M 43 (G.2.2.2.2.2 (ix (nI i + 1)))) := ⟨_, rfl⟩
  rw [← eP] at ag
  have rest : ∀ (cv : Int32) (τ2 : zTu) (A2 B2 : zSg), P.1 0 0 = cv → (cv = 0 → τ2 w 0 = P.2.toInt64) → (∃ n', zQR n' K A2 P.1) → zU B2 → zV G X 9 (300 * (j + 1) - 1) (2500 * (j + 1) - 6) (fun z => n ≤ z) ly τ2 (st3 σ x A2 B2 M) 1065 [some (.ref G.2.2.2.1), some (.ref x), some (.ref (x + 191)), some (.ref w), some (.int (nI i)), none, none, none, none] [.int cv] := by
    intro cv τ2 A2 B2 hcv hval hq2 hu2
    obtain ⟨n', hq2⟩ := hq2
    refine zr_istore_5 hO dL_law_1065 (by decide) rfl ?_
    refine zr_aload_2 hO dL_law_1067 ?_
    refine zr_aload_0 hO dL_law_1068 ?_
    refine zr_iload_4 hO dL_law_1069 ?_
    refine zr_iconst (v := 1) hO dL_law_1071 (by decide) ?_
    refine zr_iadd hO dL_law_1072 ?_
    refine zV_pc (pc' := 1073) rfl ?_
    refine zr_sld hO (by rw [nI_1]; exact sidx hLL hi (by decide)) dL_law_1073 ?_
    rw [st3_M]
    refine zV_pc (pc' := 1074) rfl ?_
    refine zr_V1 (D := D) hO hRm hL (by omega) (by decide) (c := 7) (by decide) (zM_0 hM) rfl rfl (e_X7_roundsOf (d := D - 1) htr hM (by omega) hW) zl_L_170 zi_X7_roundsOf zs_X7_roundsOf zc_X7_roundsOf zn_X7 zd_X7_roundsOf (Nat.le_of_ble_eq_true rfl) dL_law_1074 (by omega) (by omega) ?_
    rw [← eP]
    rw [← st3_M]
    refine zV_pc (pc' := 1077) rfl ?_
    refine zr_istore_6 hO dL_law_1077 (by decide) rfl ?_
    refine zr_aload_2 hO dL_law_1079 ?_
    rw [st3_M]
    refine zV_pc (pc' := 1080) rfl ?_
    refine zr_V0 (D := D) hO hRm hL (by omega) (by decide) (c := 7) (by decide) (zM_0 hM) rfl rfl (e_X7_thrown (d := D - 1) htr hM (by omega)) zl_L_118 zi_X7_thrown zs_X7_thrown zc_X7_thrown zn_X7 zd_X7_thrown (Nat.le_of_ble_eq_true rfl) dL_law_1080 (by omega) (by omega) ?_
    rw [← st3_M]
    refine zV_pc (pc' := 1083) rfl ?_
    refine zr_iload_5 hO dL_law_1083 ?_
    refine zr_icmp_eq (tgt := 1090) hO dL_law_1085 (by decide) (fun c9 => ?_) (fun c9 => absurd hcv c9)
    refine zr_iload_5 hO dL_law_1090 ?_
    have fin : ∀ bc bs, 300 * j ≤ bc → 2500 * j ≤ bs → zV G X 9 bc bs (fun z => n ≤ z) ly τ2 (st3 σ x A2 B2 P.1) 1107 [some (.ref G.2.2.2.1), some (.ref x), some (.ref (x + 191)), some (.ref w), some (.int (nI i)), some (.int cv), some (.int P.2), none, none] [] := by
      intro bc bs g1 g2
      refine zr_goto (tgt := 2173) hO dL_law_1107 (by decide) ?_
      exact t_end H hn hq2 hu2 (by omega) g1 g2
    refine zr_if_ne (tgt := 1107) hO dL_law_1092 (by decide) (fun c9 => fin _ _ (by omega) (by omega)) (fun c8 => ?_)
    refine zr_aload_3 hO dL_law_1095 ?_
    refine zr_iconst (v := 0) hO dL_law_1096 (by decide) ?_
    refine zr_lald hO hw (zin_i ⟨by decide, by decide⟩) dL_law_1097 ?_
    refine zV_pc (pc' := 1098) rfl ?_
    refine zr_iload_6 hO dL_law_1098 ?_
    refine zr_i2l hO dL_law_1100 ?_
    refine zV_pc (pc' := 1101) rfl ?_
    refine zr_lcmp_eq (tgt := 1107) hO dL_law_1101 dL_law_1102 (by decide) (fun c7 => fin _ _ (by omega) (by omega)) (fun c7 => absurd (hval c8) c7)
  refine zr_aload_1 hO dL_law_1054 ?_
  refine zr_aload_0 hO dL_law_1055 ?_
  refine zr_iload_4 hO dL_law_1056 ?_
  refine zr_iconst (v := 1) hO dL_law_1058 (by decide) ?_
  refine zr_iadd hO dL_law_1059 ?_
  refine zV_pc (pc' := 1060) rfl ?_
  refine zr_sld hO (by rw [nI_1]; exact sidx hLL hi (by decide)) dL_law_1060 ?_
  refine zr_aload_3 hO dL_law_1061 ?_
  rw [st3_A]
  rcases hR : cP_of A (G.2.2.2.2.2 (ix (nI i + 1))) (fun i => A (ztk i) 8) with q9 | E9
  · rw [hR] at ag
    obtain ⟨g1, g2, g3⟩ := ag
    refine zV_pc (pc' := 1062) rfl ?_
    refine z_callSH (As := [.ref x, .int (G.2.2.2.2.2 (ix (nI i + 1))), .ref w]) hO hRm hL (by omega) (by decide) rfl (e_L_roundsOf (d := D - 1) htr hX hA hw (fun E h => by rw [hR] at h; cases h) (by omega)) zl_L_168 zt_L_roundsOf zc_L_roundsOf rfl zn_L zd_L_roundsOf (Nat.le_of_ble_eq_true rfl) dL_law_1062 (by omega) (by omega) (fun E z ly9 τ9 σ9 h => ?_) (fun v z ly9 τ9 σ9 h => ?_)
    · obtain ⟨h1, rfl, h4⟩ := h
      rw [hR] at h4
      exact absurd h4.1 (by simp)
    · obtain ⟨h1, rfl, h4⟩ := h
      rw [hR] at h4
      obtain ⟨h5, rfl, rfl⟩ := h4
      cases h5
      refine zV_S (S' := fun z => n ≤ z) (fun z9 e9 => by subst e9; exact h1) ?_
      rw [← st3_A]
      refine zV_pc (pc' := 1065) rfl ?_
      exact rest 0 _ _ _ g2 (fun _ => by rw [← g1]; exact zupL_at _ _ _ _) g3 hU
  · rw [hR] at ag
    obtain ⟨g0, g2, g3⟩ := ag
    refine zV_pc (pc' := 1062) rfl ?_
    refine z_callSH (As := [.ref x, .int (G.2.2.2.2.2 (ix (nI i + 1))), .ref w]) hO hRm hL (by omega) (by decide) rfl (e_L_roundsOf (d := D - 1) htr hX hA hw (fun E h => by rw [hR] at h; cases h; exact g0) (by omega)) zl_L_168 zt_L_roundsOf zc_L_roundsOf rfl zn_L zd_L_roundsOf (Nat.le_of_ble_eq_true rfl) dL_law_1062 (by omega) (by omega) (fun E z ly9 τ9 σ9 h => ?_) (fun v z ly9 τ9 σ9 h => ?_)
    · obtain ⟨h1, rfl, h4⟩ := h
      rw [hR] at h4
      exact absurd h4.1 (by simp)
    · obtain ⟨h1, rfl, h4⟩ := h
      rw [hR] at h4
      obtain ⟨h5, rfl, rfl⟩ := h4
      cases h5
      refine zV_S (S' := fun z => n ≤ z) (fun z9 e9 => by subst e9; exact h1) ?_
      rw [← st3_A]
      refine zV_pc (pc' := 1065) rfl ?_
      exact rest _ _ _ _ g2 (fun h0 => absurd h0 (by simp only [LX, List.mem_cons, List.not_mem_nil, or_false] at g0; subst g0; decide)) g3 hU
set_option maxRecDepth 100000 in
set_option maxHeartbeats 1000000 in
theorem tu_keyOf {G : zGm} {X : zCx} {l : Launch} {D x w n j i nn K : Nat} {ly : zLy} {τ : zTu} {σ A B M : zSg} (H : zLw G X l D ly x w n) (hn : zHead G X ly σ x w n j (i + 4)) (hQ : zQR nn K A M) (hU : zU B) (hK : K + 160 * (j + 1) + 240 ≤ 190000) (hi : i + 4 ≤ G.2.2.2.2.1) : zV G X 9 (300 * (j + 1)) (2500 * (j + 1)) (fun z => n ≤ z) ly τ (st3 σ x A B M) 1110 [some (.ref G.2.2.2.1), some (.ref x), some (.ref (x + 191)), some (.ref w), some (.int (nI i)), none, none, none, none] [] := by
  obtain ⟨⟨hO, hRm, hL, hD, htr⟩, ⟨hX, hA, hB, hM, hw⟩, ⟨hxw, hwn⟩, hz, hLL⟩ := id H
  have hQ0 := zQR_0 hQ 0
  have hW := zI_W hQ.1
  have ag := c_keyOf hQ (G.2.2.2.2.2 (ix (nI i + 1)))
  obtain ⟨P, eP⟩ : ∃ P, P = (mP_keyOf M (G.2.2.2.2.2 (ix (nI i + 1)))) := ⟨_, rfl⟩
  rw [← eP] at ag
  have rest : ∀ (cv : Int32) (τ2 : zTu) (A2 B2 : zSg), P.1 0 0 = cv → (cv = 0 → τ2 w 0 = P.2.toInt64) → (∃ n', zQR n' K A2 P.1) → zU B2 → zV G X 9 (300 * (j + 1) - 1) (2500 * (j + 1) - 6) (fun z => n ≤ z) ly τ2 (st3 σ x A2 B2 M) 1121 [some (.ref G.2.2.2.1), some (.ref x), some (.ref (x + 191)), some (.ref w), some (.int (nI i)), none, none, none, none] [.int cv] := by
    intro cv τ2 A2 B2 hcv hval hq2 hu2
    obtain ⟨n', hq2⟩ := hq2
    refine zr_istore_5 hO dL_law_1121 (by decide) rfl ?_
    refine zr_aload_2 hO dL_law_1123 ?_
    refine zr_aload_0 hO dL_law_1124 ?_
    refine zr_iload_4 hO dL_law_1125 ?_
    refine zr_iconst (v := 1) hO dL_law_1127 (by decide) ?_
    refine zr_iadd hO dL_law_1128 ?_
    refine zV_pc (pc' := 1129) rfl ?_
    refine zr_sld hO (by rw [nI_1]; exact sidx hLL hi (by decide)) dL_law_1129 ?_
    rw [st3_M]
    refine zV_pc (pc' := 1130) rfl ?_
    refine zr_V1 (D := D) hO hRm hL (by omega) (by decide) (c := 7) (by decide) (zM_0 hM) rfl rfl (e_X7_keyOf (d := D - 1) htr hM (by omega) hW) zl_L_173 zi_X7_keyOf zs_X7_keyOf zc_X7_keyOf zn_X7 zd_X7_keyOf (Nat.le_of_ble_eq_true rfl) dL_law_1130 (by omega) (by omega) ?_
    rw [← eP]
    rw [← st3_M]
    refine zV_pc (pc' := 1133) rfl ?_
    refine zr_istore_6 hO dL_law_1133 (by decide) rfl ?_
    refine zr_aload_2 hO dL_law_1135 ?_
    rw [st3_M]
    refine zV_pc (pc' := 1136) rfl ?_
    refine zr_V0 (D := D) hO hRm hL (by omega) (by decide) (c := 7) (by decide) (zM_0 hM) rfl rfl (e_X7_thrown (d := D - 1) htr hM (by omega)) zl_L_118 zi_X7_thrown zs_X7_thrown zc_X7_thrown zn_X7 zd_X7_thrown (Nat.le_of_ble_eq_true rfl) dL_law_1136 (by omega) (by omega) ?_
    rw [← st3_M]
    refine zV_pc (pc' := 1139) rfl ?_
    refine zr_iload_5 hO dL_law_1139 ?_
    refine zr_icmp_eq (tgt := 1146) hO dL_law_1141 (by decide) (fun c9 => ?_) (fun c9 => absurd hcv c9)
    refine zr_iload_5 hO dL_law_1146 ?_
    have fin : ∀ bc bs, 300 * j ≤ bc → 2500 * j ≤ bs → zV G X 9 bc bs (fun z => n ≤ z) ly τ2 (st3 σ x A2 B2 P.1) 1163 [some (.ref G.2.2.2.1), some (.ref x), some (.ref (x + 191)), some (.ref w), some (.int (nI i)), some (.int cv), some (.int P.2), none, none] [] := by
      intro bc bs g1 g2
      refine zr_goto (tgt := 2173) hO dL_law_1163 (by decide) ?_
      exact t_end H hn hq2 hu2 (by omega) g1 g2
    refine zr_if_ne (tgt := 1163) hO dL_law_1148 (by decide) (fun c9 => fin _ _ (by omega) (by omega)) (fun c8 => ?_)
    refine zr_aload_3 hO dL_law_1151 ?_
    refine zr_iconst (v := 0) hO dL_law_1152 (by decide) ?_
    refine zr_lald hO hw (zin_i ⟨by decide, by decide⟩) dL_law_1153 ?_
    refine zV_pc (pc' := 1154) rfl ?_
    refine zr_iload_6 hO dL_law_1154 ?_
    refine zr_i2l hO dL_law_1156 ?_
    refine zV_pc (pc' := 1157) rfl ?_
    refine zr_lcmp_eq (tgt := 1163) hO dL_law_1157 dL_law_1158 (by decide) (fun c7 => fin _ _ (by omega) (by omega)) (fun c7 => absurd (hval c8) c7)
  refine zr_aload_1 hO dL_law_1110 ?_
  refine zr_aload_0 hO dL_law_1111 ?_
  refine zr_iload_4 hO dL_law_1112 ?_
  refine zr_iconst (v := 1) hO dL_law_1114 (by decide) ?_
  refine zr_iadd hO dL_law_1115 ?_
  refine zV_pc (pc' := 1116) rfl ?_
  refine zr_sld hO (by rw [nI_1]; exact sidx hLL hi (by decide)) dL_law_1116 ?_
  refine zr_aload_3 hO dL_law_1117 ?_
  rw [st3_A]
  rcases hR : cP_of A (G.2.2.2.2.2 (ix (nI i + 1))) (fun i => cF_key A i (A 1 1)) with q9 | E9
  · rw [hR] at ag
    obtain ⟨g1, g2, g3⟩ := ag
    refine zV_pc (pc' := 1118) rfl ?_
    refine z_callSH (As := [.ref x, .int (G.2.2.2.2.2 (ix (nI i + 1))), .ref w]) hO hRm hL (by omega) (by decide) rfl (e_L_keyOf (d := D - 1) htr hX hA hw (fun E h => by rw [hR] at h; cases h) (by omega)) zl_L_171 zt_L_keyOf zc_L_keyOf rfl zn_L zd_L_keyOf (Nat.le_of_ble_eq_true rfl) dL_law_1118 (by omega) (by omega) (fun E z ly9 τ9 σ9 h => ?_) (fun v z ly9 τ9 σ9 h => ?_)
    · obtain ⟨h1, rfl, h4⟩ := h
      rw [hR] at h4
      exact absurd h4.1 (by simp)
    · obtain ⟨h1, rfl, h4⟩ := h
      rw [hR] at h4
      obtain ⟨h5, rfl, rfl⟩ := h4
      cases h5
      refine zV_S (S' := fun z => n ≤ z) (fun z9 e9 => by subst e9; exact h1) ?_
      rw [← st3_A]
      refine zV_pc (pc' := 1121) rfl ?_
      exact rest 0 _ _ _ g2 (fun _ => by rw [← g1]; exact zupL_at _ _ _ _) g3 hU
  · rw [hR] at ag
    obtain ⟨g0, g2, g3⟩ := ag
    refine zV_pc (pc' := 1118) rfl ?_
    refine z_callSH (As := [.ref x, .int (G.2.2.2.2.2 (ix (nI i + 1))), .ref w]) hO hRm hL (by omega) (by decide) rfl (e_L_keyOf (d := D - 1) htr hX hA hw (fun E h => by rw [hR] at h; cases h; exact g0) (by omega)) zl_L_171 zt_L_keyOf zc_L_keyOf rfl zn_L zd_L_keyOf (Nat.le_of_ble_eq_true rfl) dL_law_1118 (by omega) (by omega) (fun E z ly9 τ9 σ9 h => ?_) (fun v z ly9 τ9 σ9 h => ?_)
    · obtain ⟨h1, rfl, h4⟩ := h
      rw [hR] at h4
      exact absurd h4.1 (by simp)
    · obtain ⟨h1, rfl, h4⟩ := h
      rw [hR] at h4
      obtain ⟨h5, rfl, rfl⟩ := h4
      cases h5
      refine zV_S (S' := fun z => n ≤ z) (fun z9 e9 => by subst e9; exact h1) ?_
      rw [← st3_A]
      refine zV_pc (pc' := 1121) rfl ?_
      exact rest _ _ _ _ g2 (fun h0 => absurd h0 (by simp only [LX, List.mem_cons, List.not_mem_nil, or_false] at g0; subst g0; decide)) g3 hU
set_option maxRecDepth 100000 in
set_option maxHeartbeats 1000000 in
theorem tu_lentKey {G : zGm} {X : zCx} {l : Launch} {D x w n j i nn K : Nat} {ly : zLy} {τ : zTu} {σ A B M : zSg} (H : zLw G X l D ly x w n) (hn : zHead G X ly σ x w n j (i + 4)) (hQ : zQR nn K A M) (hU : zU B) (hK : K + 160 * (j + 1) + 240 ≤ 190000) (hi : i + 4 ≤ G.2.2.2.2.1) : zV G X 9 (300 * (j + 1)) (2500 * (j + 1)) (fun z => n ≤ z) ly τ (st3 σ x A B M) 1166 [some (.ref G.2.2.2.1), some (.ref x), some (.ref (x + 191)), some (.ref w), some (.int (nI i)), none, none, none, none] [] := by
  obtain ⟨⟨hO, hRm, hL, hD, htr⟩, ⟨hX, hA, hB, hM, hw⟩, ⟨hxw, hwn⟩, hz, hLL⟩ := id H
  have hQ0 := zQR_0 hQ 0
  have hW := zI_W hQ.1
  have ag := c_lentKey hQ (G.2.2.2.2.2 (ix (nI i + 1)))
  obtain ⟨P, eP⟩ : ∃ P, P = (mP_lentKey M (G.2.2.2.2.2 (ix (nI i + 1)))) := ⟨_, rfl⟩
  rw [← eP] at ag
  have rest : ∀ (cv : Int32) (τ2 : zTu) (A2 B2 : zSg), P.1 0 0 = cv → (cv = 0 → τ2 w 0 = P.2.toInt64) → (∃ n', zQR n' K A2 P.1) → zU B2 → zV G X 9 (300 * (j + 1) - 1) (2500 * (j + 1) - 6) (fun z => n ≤ z) ly τ2 (st3 σ x A2 B2 M) 1177 [some (.ref G.2.2.2.1), some (.ref x), some (.ref (x + 191)), some (.ref w), some (.int (nI i)), none, none, none, none] [.int cv] := by
    intro cv τ2 A2 B2 hcv hval hq2 hu2
    obtain ⟨n', hq2⟩ := hq2
    refine zr_istore_5 hO dL_law_1177 (by decide) rfl ?_
    refine zr_aload_2 hO dL_law_1179 ?_
    refine zr_aload_0 hO dL_law_1180 ?_
    refine zr_iload_4 hO dL_law_1181 ?_
    refine zr_iconst (v := 1) hO dL_law_1183 (by decide) ?_
    refine zr_iadd hO dL_law_1184 ?_
    refine zV_pc (pc' := 1185) rfl ?_
    refine zr_sld hO (by rw [nI_1]; exact sidx hLL hi (by decide)) dL_law_1185 ?_
    rw [st3_M]
    refine zV_pc (pc' := 1186) rfl ?_
    refine zr_V1 (D := D) hO hRm hL (by omega) (by decide) (c := 7) (by decide) (zM_0 hM) rfl rfl (e_X7_lentKey (d := D - 1) htr hM (by omega) hW) zl_L_176 zi_X7_lentKey zs_X7_lentKey zc_X7_lentKey zn_X7 zd_X7_lentKey (Nat.le_of_ble_eq_true rfl) dL_law_1186 (by omega) (by omega) ?_
    rw [← eP]
    rw [← st3_M]
    refine zV_pc (pc' := 1189) rfl ?_
    refine zr_istore_6 hO dL_law_1189 (by decide) rfl ?_
    refine zr_aload_2 hO dL_law_1191 ?_
    rw [st3_M]
    refine zV_pc (pc' := 1192) rfl ?_
    refine zr_V0 (D := D) hO hRm hL (by omega) (by decide) (c := 7) (by decide) (zM_0 hM) rfl rfl (e_X7_thrown (d := D - 1) htr hM (by omega)) zl_L_118 zi_X7_thrown zs_X7_thrown zc_X7_thrown zn_X7 zd_X7_thrown (Nat.le_of_ble_eq_true rfl) dL_law_1192 (by omega) (by omega) ?_
    rw [← st3_M]
    refine zV_pc (pc' := 1195) rfl ?_
    refine zr_iload_5 hO dL_law_1195 ?_
    refine zr_icmp_eq (tgt := 1202) hO dL_law_1197 (by decide) (fun c9 => ?_) (fun c9 => absurd hcv c9)
    refine zr_iload_5 hO dL_law_1202 ?_
    have fin : ∀ bc bs, 300 * j ≤ bc → 2500 * j ≤ bs → zV G X 9 bc bs (fun z => n ≤ z) ly τ2 (st3 σ x A2 B2 P.1) 1219 [some (.ref G.2.2.2.1), some (.ref x), some (.ref (x + 191)), some (.ref w), some (.int (nI i)), some (.int cv), some (.int P.2), none, none] [] := by
      intro bc bs g1 g2
      refine zr_goto (tgt := 2173) hO dL_law_1219 (by decide) ?_
      exact t_end H hn hq2 hu2 (by omega) g1 g2
    refine zr_if_ne (tgt := 1219) hO dL_law_1204 (by decide) (fun c9 => fin _ _ (by omega) (by omega)) (fun c8 => ?_)
    refine zr_aload_3 hO dL_law_1207 ?_
    refine zr_iconst (v := 0) hO dL_law_1208 (by decide) ?_
    refine zr_lald hO hw (zin_i ⟨by decide, by decide⟩) dL_law_1209 ?_
    refine zV_pc (pc' := 1210) rfl ?_
    refine zr_iload_6 hO dL_law_1210 ?_
    refine zr_i2l hO dL_law_1212 ?_
    refine zV_pc (pc' := 1213) rfl ?_
    refine zr_lcmp_eq (tgt := 1219) hO dL_law_1213 dL_law_1214 (by decide) (fun c7 => fin _ _ (by omega) (by omega)) (fun c7 => absurd (hval c8) c7)
  refine zr_aload_1 hO dL_law_1166 ?_
  refine zr_aload_0 hO dL_law_1167 ?_
  refine zr_iload_4 hO dL_law_1168 ?_
  refine zr_iconst (v := 1) hO dL_law_1170 (by decide) ?_
  refine zr_iadd hO dL_law_1171 ?_
  refine zV_pc (pc' := 1172) rfl ?_
  refine zr_sld hO (by rw [nI_1]; exact sidx hLL hi (by decide)) dL_law_1172 ?_
  refine zr_aload_3 hO dL_law_1173 ?_
  rw [st3_A]
  rcases hR : cP_lentKey A (G.2.2.2.2.2 (ix (nI i + 1))) with q9 | E9
  · rw [hR] at ag
    obtain ⟨g1, g2, g3⟩ := ag
    refine zV_pc (pc' := 1174) rfl ?_
    refine z_callSH (As := [.ref x, .int (G.2.2.2.2.2 (ix (nI i + 1))), .ref w]) hO hRm hL (by omega) (by decide) rfl (e_L_lentKey (d := D - 1) htr hX hA hw (fun E h => by rw [hR] at h; cases h) (by omega)) zl_L_174 zt_L_lentKey zc_L_lentKey rfl zn_L zd_L_lentKey (Nat.le_of_ble_eq_true rfl) dL_law_1174 (by omega) (by omega) (fun E z ly9 τ9 σ9 h => ?_) (fun v z ly9 τ9 σ9 h => ?_)
    · obtain ⟨h1, rfl, h4⟩ := h
      rw [hR] at h4
      exact absurd h4.1 (by simp)
    · obtain ⟨h1, rfl, h4⟩ := h
      rw [hR] at h4
      obtain ⟨h5, rfl, rfl⟩ := h4
      cases h5
      refine zV_S (S' := fun z => n ≤ z) (fun z9 e9 => by subst e9; exact h1) ?_
      rw [← st3_A]
      refine zV_pc (pc' := 1177) rfl ?_
      exact rest 0 _ _ _ g2 (fun _ => by rw [← g1]; exact zupL_at _ _ _ _) g3 hU
  · rw [hR] at ag
    obtain ⟨g0, g2, g3⟩ := ag
    refine zV_pc (pc' := 1174) rfl ?_
    refine z_callSH (As := [.ref x, .int (G.2.2.2.2.2 (ix (nI i + 1))), .ref w]) hO hRm hL (by omega) (by decide) rfl (e_L_lentKey (d := D - 1) htr hX hA hw (fun E h => by rw [hR] at h; cases h; exact g0) (by omega)) zl_L_174 zt_L_lentKey zc_L_lentKey rfl zn_L zd_L_lentKey (Nat.le_of_ble_eq_true rfl) dL_law_1174 (by omega) (by omega) (fun E z ly9 τ9 σ9 h => ?_) (fun v z ly9 τ9 σ9 h => ?_)
    · obtain ⟨h1, rfl, h4⟩ := h
      rw [hR] at h4
      exact absurd h4.1 (by simp)
    · obtain ⟨h1, rfl, h4⟩ := h
      rw [hR] at h4
      obtain ⟨h5, rfl, rfl⟩ := h4
      cases h5
      refine zV_S (S' := fun z => n ≤ z) (fun z9 e9 => by subst e9; exact h1) ?_
      rw [← st3_A]
      refine zV_pc (pc' := 1177) rfl ?_
      exact rest _ _ _ _ g2 (fun h0 => absurd h0 (by simp only [LX, List.mem_cons, List.not_mem_nil, or_false] at g0; subst g0; decide)) g3 hU
set_option maxRecDepth 100000 in
set_option maxHeartbeats 1000000 in
theorem tu_standOf {G : zGm} {X : zCx} {l : Launch} {D x w n j i nn K : Nat} {ly : zLy} {τ : zTu} {σ A B M : zSg} (H : zLw G X l D ly x w n) (hn : zHead G X ly σ x w n j (i + 4)) (hQ : zQR nn K A M) (hU : zU B) (hK : K + 160 * (j + 1) + 240 ≤ 190000) (hi : i + 4 ≤ G.2.2.2.2.1) : zV G X 9 (300 * (j + 1)) (2500 * (j + 1)) (fun z => n ≤ z) ly τ (st3 σ x A B M) 1222 [some (.ref G.2.2.2.1), some (.ref x), some (.ref (x + 191)), some (.ref w), some (.int (nI i)), none, none, none, none] [] := by
  obtain ⟨⟨hO, hRm, hL, hD, htr⟩, ⟨hX, hA, hB, hM, hw⟩, ⟨hxw, hwn⟩, hz, hLL⟩ := id H
  have hQ0 := zQR_0 hQ 0
  have hW := zI_W hQ.1
  have ag := c_standOf hQ (G.2.2.2.2.2 (ix (nI i + 1)))
  obtain ⟨P, eP⟩ : ∃ P, P = (mP_of M 45 (G.2.2.2.2.2 (ix (nI i + 1)))) := ⟨_, rfl⟩
  rw [← eP] at ag
  have rest : ∀ (cv : Int32) (τ2 : zTu) (A2 B2 : zSg), P.1 0 0 = cv → (cv = 0 → τ2 w 0 = P.2.toInt64) → (∃ n', zQR n' K A2 P.1) → zU B2 → zV G X 9 (300 * (j + 1) - 1) (2500 * (j + 1) - 6) (fun z => n ≤ z) ly τ2 (st3 σ x A2 B2 M) 1233 [some (.ref G.2.2.2.1), some (.ref x), some (.ref (x + 191)), some (.ref w), some (.int (nI i)), none, none, none, none] [.int cv] := by
    intro cv τ2 A2 B2 hcv hval hq2 hu2
    obtain ⟨n', hq2⟩ := hq2
    refine zr_istore_5 hO dL_law_1233 (by decide) rfl ?_
    refine zr_aload_2 hO dL_law_1235 ?_
    refine zr_aload_0 hO dL_law_1236 ?_
    refine zr_iload_4 hO dL_law_1237 ?_
    refine zr_iconst (v := 1) hO dL_law_1239 (by decide) ?_
    refine zr_iadd hO dL_law_1240 ?_
    refine zV_pc (pc' := 1241) rfl ?_
    refine zr_sld hO (by rw [nI_1]; exact sidx hLL hi (by decide)) dL_law_1241 ?_
    rw [st3_M]
    refine zV_pc (pc' := 1242) rfl ?_
    refine zr_V1 (D := D) hO hRm hL (by omega) (by decide) (c := 7) (by decide) (zM_0 hM) rfl rfl (e_X7_standOf (d := D - 1) htr hM (by omega) hW) zl_L_179 zi_X7_standOf zs_X7_standOf zc_X7_standOf zn_X7 zd_X7_standOf (Nat.le_of_ble_eq_true rfl) dL_law_1242 (by omega) (by omega) ?_
    rw [← eP]
    rw [← st3_M]
    refine zV_pc (pc' := 1245) rfl ?_
    refine zr_istore_6 hO dL_law_1245 (by decide) rfl ?_
    refine zr_aload_2 hO dL_law_1247 ?_
    rw [st3_M]
    refine zV_pc (pc' := 1248) rfl ?_
    refine zr_V0 (D := D) hO hRm hL (by omega) (by decide) (c := 7) (by decide) (zM_0 hM) rfl rfl (e_X7_thrown (d := D - 1) htr hM (by omega)) zl_L_118 zi_X7_thrown zs_X7_thrown zc_X7_thrown zn_X7 zd_X7_thrown (Nat.le_of_ble_eq_true rfl) dL_law_1248 (by omega) (by omega) ?_
    rw [← st3_M]
    refine zV_pc (pc' := 1251) rfl ?_
    refine zr_iload_5 hO dL_law_1251 ?_
    refine zr_icmp_eq (tgt := 1258) hO dL_law_1253 (by decide) (fun c9 => ?_) (fun c9 => absurd hcv c9)
    refine zr_iload_5 hO dL_law_1258 ?_
    have fin : ∀ bc bs, 300 * j ≤ bc → 2500 * j ≤ bs → zV G X 9 bc bs (fun z => n ≤ z) ly τ2 (st3 σ x A2 B2 P.1) 1275 [some (.ref G.2.2.2.1), some (.ref x), some (.ref (x + 191)), some (.ref w), some (.int (nI i)), some (.int cv), some (.int P.2), none, none] [] := by
      intro bc bs g1 g2
      refine zr_goto (tgt := 2173) hO dL_law_1275 (by decide) ?_
      exact t_end H hn hq2 hu2 (by omega) g1 g2
    refine zr_if_ne (tgt := 1275) hO dL_law_1260 (by decide) (fun c9 => fin _ _ (by omega) (by omega)) (fun c8 => ?_)
    refine zr_aload_3 hO dL_law_1263 ?_
    refine zr_iconst (v := 0) hO dL_law_1264 (by decide) ?_
    refine zr_lald hO hw (zin_i ⟨by decide, by decide⟩) dL_law_1265 ?_
    refine zV_pc (pc' := 1266) rfl ?_
    refine zr_iload_6 hO dL_law_1266 ?_
    refine zr_i2l hO dL_law_1268 ?_
    refine zV_pc (pc' := 1269) rfl ?_
    refine zr_lcmp_eq (tgt := 1275) hO dL_law_1269 dL_law_1270 (by decide) (fun c7 => fin _ _ (by omega) (by omega)) (fun c7 => absurd (hval c8) c7)
  refine zr_aload_1 hO dL_law_1222 ?_
  refine zr_aload_0 hO dL_law_1223 ?_
  refine zr_iload_4 hO dL_law_1224 ?_
  refine zr_iconst (v := 1) hO dL_law_1226 (by decide) ?_
  refine zr_iadd hO dL_law_1227 ?_
  refine zV_pc (pc' := 1228) rfl ?_
  refine zr_sld hO (by rw [nI_1]; exact sidx hLL hi (by decide)) dL_law_1228 ?_
  refine zr_aload_3 hO dL_law_1229 ?_
  rw [st3_A]
  rcases hR : cP_of A (G.2.2.2.2.2 (ix (nI i + 1))) (fun i => A (ztk i) 9) with q9 | E9
  · rw [hR] at ag
    obtain ⟨g1, g2, g3⟩ := ag
    refine zV_pc (pc' := 1230) rfl ?_
    refine z_callSH (As := [.ref x, .int (G.2.2.2.2.2 (ix (nI i + 1))), .ref w]) hO hRm hL (by omega) (by decide) rfl (e_L_standOf (d := D - 1) htr hX hA hw (fun E h => by rw [hR] at h; cases h) (by omega)) zl_L_177 zt_L_standOf zc_L_standOf rfl zn_L zd_L_standOf (Nat.le_of_ble_eq_true rfl) dL_law_1230 (by omega) (by omega) (fun E z ly9 τ9 σ9 h => ?_) (fun v z ly9 τ9 σ9 h => ?_)
    · obtain ⟨h1, rfl, h4⟩ := h
      rw [hR] at h4
      exact absurd h4.1 (by simp)
    · obtain ⟨h1, rfl, h4⟩ := h
      rw [hR] at h4
      obtain ⟨h5, rfl, rfl⟩ := h4
      cases h5
      refine zV_S (S' := fun z => n ≤ z) (fun z9 e9 => by subst e9; exact h1) ?_
      rw [← st3_A]
      refine zV_pc (pc' := 1233) rfl ?_
      exact rest 0 _ _ _ g2 (fun _ => by rw [← g1]; exact zupL_at _ _ _ _) g3 hU
  · rw [hR] at ag
    obtain ⟨g0, g2, g3⟩ := ag
    refine zV_pc (pc' := 1230) rfl ?_
    refine z_callSH (As := [.ref x, .int (G.2.2.2.2.2 (ix (nI i + 1))), .ref w]) hO hRm hL (by omega) (by decide) rfl (e_L_standOf (d := D - 1) htr hX hA hw (fun E h => by rw [hR] at h; cases h; exact g0) (by omega)) zl_L_177 zt_L_standOf zc_L_standOf rfl zn_L zd_L_standOf (Nat.le_of_ble_eq_true rfl) dL_law_1230 (by omega) (by omega) (fun E z ly9 τ9 σ9 h => ?_) (fun v z ly9 τ9 σ9 h => ?_)
    · obtain ⟨h1, rfl, h4⟩ := h
      rw [hR] at h4
      exact absurd h4.1 (by simp)
    · obtain ⟨h1, rfl, h4⟩ := h
      rw [hR] at h4
      obtain ⟨h5, rfl, rfl⟩ := h4
      cases h5
      refine zV_S (S' := fun z => n ≤ z) (fun z9 e9 => by subst e9; exact h1) ?_
      rw [← st3_A]
      refine zV_pc (pc' := 1233) rfl ?_
      exact rest _ _ _ _ g2 (fun h0 => absurd h0 (by simp only [LX, List.mem_cons, List.not_mem_nil, or_false] at g0; subst g0; decide)) g3 hU
set_option maxRecDepth 100000 in
set_option maxHeartbeats 1000000 in
theorem tu_levelOf {G : zGm} {X : zCx} {l : Launch} {D x w n j i nn K : Nat} {ly : zLy} {τ : zTu} {σ A B M : zSg} (H : zLw G X l D ly x w n) (hn : zHead G X ly σ x w n j (i + 4)) (hQ : zQR nn K A M) (hU : zU B) (hK : K + 160 * (j + 1) + 240 ≤ 190000) (hi : i + 4 ≤ G.2.2.2.2.1) : zV G X 9 (300 * (j + 1)) (2500 * (j + 1)) (fun z => n ≤ z) ly τ (st3 σ x A B M) 1278 [some (.ref G.2.2.2.1), some (.ref x), some (.ref (x + 191)), some (.ref w), some (.int (nI i)), none, none, none, none] [] := by
  obtain ⟨⟨hO, hRm, hL, hD, htr⟩, ⟨hX, hA, hB, hM, hw⟩, ⟨hxw, hwn⟩, hz, hLL⟩ := id H
  have hQ0 := zQR_0 hQ 0
  have hW := zI_W hQ.1
  have ag := c_levelOf hQ (G.2.2.2.2.2 (ix (nI i + 1)))
  obtain ⟨P, eP⟩ : ∃ P, P = (mP_of M 46 (G.2.2.2.2.2 (ix (nI i + 1)))) := ⟨_, rfl⟩
  rw [← eP] at ag
  have rest : ∀ (cv : Int32) (τ2 : zTu) (A2 B2 : zSg), P.1 0 0 = cv → (cv = 0 → τ2 w 0 = P.2.toInt64) → (∃ n', zQR n' K A2 P.1) → zU B2 → zV G X 9 (300 * (j + 1) - 1) (2500 * (j + 1) - 6) (fun z => n ≤ z) ly τ2 (st3 σ x A2 B2 M) 1289 [some (.ref G.2.2.2.1), some (.ref x), some (.ref (x + 191)), some (.ref w), some (.int (nI i)), none, none, none, none] [.int cv] := by
    intro cv τ2 A2 B2 hcv hval hq2 hu2
    obtain ⟨n', hq2⟩ := hq2
    refine zr_istore_5 hO dL_law_1289 (by decide) rfl ?_
    refine zr_aload_2 hO dL_law_1291 ?_
    refine zr_aload_0 hO dL_law_1292 ?_
    refine zr_iload_4 hO dL_law_1293 ?_
    refine zr_iconst (v := 1) hO dL_law_1295 (by decide) ?_
    refine zr_iadd hO dL_law_1296 ?_
    refine zV_pc (pc' := 1297) rfl ?_
    refine zr_sld hO (by rw [nI_1]; exact sidx hLL hi (by decide)) dL_law_1297 ?_
    rw [st3_M]
    refine zV_pc (pc' := 1298) rfl ?_
    refine zr_V1 (D := D) hO hRm hL (by omega) (by decide) (c := 7) (by decide) (zM_0 hM) rfl rfl (e_X7_levelOf (d := D - 1) htr hM (by omega) hW) zl_L_182 zi_X7_levelOf zs_X7_levelOf zc_X7_levelOf zn_X7 zd_X7_levelOf (Nat.le_of_ble_eq_true rfl) dL_law_1298 (by omega) (by omega) ?_
    rw [← eP]
    rw [← st3_M]
    refine zV_pc (pc' := 1301) rfl ?_
    refine zr_istore_6 hO dL_law_1301 (by decide) rfl ?_
    refine zr_aload_2 hO dL_law_1303 ?_
    rw [st3_M]
    refine zV_pc (pc' := 1304) rfl ?_
    refine zr_V0 (D := D) hO hRm hL (by omega) (by decide) (c := 7) (by decide) (zM_0 hM) rfl rfl (e_X7_thrown (d := D - 1) htr hM (by omega)) zl_L_118 zi_X7_thrown zs_X7_thrown zc_X7_thrown zn_X7 zd_X7_thrown (Nat.le_of_ble_eq_true rfl) dL_law_1304 (by omega) (by omega) ?_
    rw [← st3_M]
    refine zV_pc (pc' := 1307) rfl ?_
    refine zr_iload_5 hO dL_law_1307 ?_
    refine zr_icmp_eq (tgt := 1314) hO dL_law_1309 (by decide) (fun c9 => ?_) (fun c9 => absurd hcv c9)
    refine zr_iload_5 hO dL_law_1314 ?_
    have fin : ∀ bc bs, 300 * j ≤ bc → 2500 * j ≤ bs → zV G X 9 bc bs (fun z => n ≤ z) ly τ2 (st3 σ x A2 B2 P.1) 1331 [some (.ref G.2.2.2.1), some (.ref x), some (.ref (x + 191)), some (.ref w), some (.int (nI i)), some (.int cv), some (.int P.2), none, none] [] := by
      intro bc bs g1 g2
      refine zr_goto (tgt := 2173) hO dL_law_1331 (by decide) ?_
      exact t_end H hn hq2 hu2 (by omega) g1 g2
    refine zr_if_ne (tgt := 1331) hO dL_law_1316 (by decide) (fun c9 => fin _ _ (by omega) (by omega)) (fun c8 => ?_)
    refine zr_aload_3 hO dL_law_1319 ?_
    refine zr_iconst (v := 0) hO dL_law_1320 (by decide) ?_
    refine zr_lald hO hw (zin_i ⟨by decide, by decide⟩) dL_law_1321 ?_
    refine zV_pc (pc' := 1322) rfl ?_
    refine zr_iload_6 hO dL_law_1322 ?_
    refine zr_i2l hO dL_law_1324 ?_
    refine zV_pc (pc' := 1325) rfl ?_
    refine zr_lcmp_eq (tgt := 1331) hO dL_law_1325 dL_law_1326 (by decide) (fun c7 => fin _ _ (by omega) (by omega)) (fun c7 => absurd (hval c8) c7)
  refine zr_aload_1 hO dL_law_1278 ?_
  refine zr_aload_0 hO dL_law_1279 ?_
  refine zr_iload_4 hO dL_law_1280 ?_
  refine zr_iconst (v := 1) hO dL_law_1282 (by decide) ?_
  refine zr_iadd hO dL_law_1283 ?_
  refine zV_pc (pc' := 1284) rfl ?_
  refine zr_sld hO (by rw [nI_1]; exact sidx hLL hi (by decide)) dL_law_1284 ?_
  refine zr_aload_3 hO dL_law_1285 ?_
  rw [st3_A]
  rcases hR : cP_of A (G.2.2.2.2.2 (ix (nI i + 1))) (fun i => A (ztk i) 10) with q9 | E9
  · rw [hR] at ag
    obtain ⟨g1, g2, g3⟩ := ag
    refine zV_pc (pc' := 1286) rfl ?_
    refine z_callSH (As := [.ref x, .int (G.2.2.2.2.2 (ix (nI i + 1))), .ref w]) hO hRm hL (by omega) (by decide) rfl (e_L_levelOf (d := D - 1) htr hX hA hw (fun E h => by rw [hR] at h; cases h) (by omega)) zl_L_180 zt_L_levelOf zc_L_levelOf rfl zn_L zd_L_levelOf (Nat.le_of_ble_eq_true rfl) dL_law_1286 (by omega) (by omega) (fun E z ly9 τ9 σ9 h => ?_) (fun v z ly9 τ9 σ9 h => ?_)
    · obtain ⟨h1, rfl, h4⟩ := h
      rw [hR] at h4
      exact absurd h4.1 (by simp)
    · obtain ⟨h1, rfl, h4⟩ := h
      rw [hR] at h4
      obtain ⟨h5, rfl, rfl⟩ := h4
      cases h5
      refine zV_S (S' := fun z => n ≤ z) (fun z9 e9 => by subst e9; exact h1) ?_
      rw [← st3_A]
      refine zV_pc (pc' := 1289) rfl ?_
      exact rest 0 _ _ _ g2 (fun _ => by rw [← g1]; exact zupL_at _ _ _ _) g3 hU
  · rw [hR] at ag
    obtain ⟨g0, g2, g3⟩ := ag
    refine zV_pc (pc' := 1286) rfl ?_
    refine z_callSH (As := [.ref x, .int (G.2.2.2.2.2 (ix (nI i + 1))), .ref w]) hO hRm hL (by omega) (by decide) rfl (e_L_levelOf (d := D - 1) htr hX hA hw (fun E h => by rw [hR] at h; cases h; exact g0) (by omega)) zl_L_180 zt_L_levelOf zc_L_levelOf rfl zn_L zd_L_levelOf (Nat.le_of_ble_eq_true rfl) dL_law_1286 (by omega) (by omega) (fun E z ly9 τ9 σ9 h => ?_) (fun v z ly9 τ9 σ9 h => ?_)
    · obtain ⟨h1, rfl, h4⟩ := h
      rw [hR] at h4
      exact absurd h4.1 (by simp)
    · obtain ⟨h1, rfl, h4⟩ := h
      rw [hR] at h4
      obtain ⟨h5, rfl, rfl⟩ := h4
      cases h5
      refine zV_S (S' := fun z => n ≤ z) (fun z9 e9 => by subst e9; exact h1) ?_
      rw [← st3_A]
      refine zV_pc (pc' := 1289) rfl ?_
      exact rest _ _ _ _ g2 (fun h0 => absurd h0 (by simp only [LX, List.mem_cons, List.not_mem_nil, or_false] at g0; subst g0; decide)) g3 hU
set_option maxRecDepth 100000 in
set_option maxHeartbeats 1000000 in
theorem tu_told {G : zGm} {X : zCx} {l : Launch} {D x w n j i nn K : Nat} {ly : zLy} {τ : zTu} {σ A B M : zSg} (H : zLw G X l D ly x w n) (hn : zHead G X ly σ x w n j (i + 4)) (hQ : zQR nn K A M) (hU : zU B) (hK : K + 160 * (j + 1) + 240 ≤ 190000) (hi : i + 4 ≤ G.2.2.2.2.1) : zV G X 9 (300 * (j + 1)) (2500 * (j + 1)) (fun z => n ≤ z) ly τ (st3 σ x A B M) 1334 [some (.ref G.2.2.2.1), some (.ref x), some (.ref (x + 191)), some (.ref w), some (.int (nI i)), none, none, none, none] [] := by
  obtain ⟨⟨hO, hRm, hL, hD, htr⟩, ⟨hX, hA, hB, hM, hw⟩, ⟨hxw, hwn⟩, hz, hLL⟩ := id H
  have hQ0 := zQR_0 hQ 0
  have hW := zI_W hQ.1
  have ag := c_told hQ (G.2.2.2.2.2 (ix (nI i + 1))) (G.2.2.2.2.2 (ix (nI i + 2)))
  obtain ⟨P, eP⟩ : ∃ P, P = (mP_told M (G.2.2.2.2.2 (ix (nI i + 1))) (G.2.2.2.2.2 (ix (nI i + 2)))) := ⟨_, rfl⟩
  rw [← eP] at ag
  have rest : ∀ (cv : Int32) (τ2 : zTu) (A2 B2 : zSg), P.1 0 0 = cv → (cv = 0 → τ2 w 0 = P.2.toInt64) → (∃ n', zQR n' K A2 P.1) → zU B2 → zV G X 9 (300 * (j + 1) - 1) (2500 * (j + 1) - 6) (fun z => n ≤ z) ly τ2 (st3 σ x A2 B2 M) 1351 [some (.ref G.2.2.2.1), some (.ref x), some (.ref (x + 191)), some (.ref w), some (.int (nI i)), none, none, none, none] [.int cv] := by
    intro cv τ2 A2 B2 hcv hval hq2 hu2
    obtain ⟨n', hq2⟩ := hq2
    refine zr_istore_5 hO dL_law_1351 (by decide) rfl ?_
    refine zr_aload_2 hO dL_law_1353 ?_
    refine zr_aload_0 hO dL_law_1354 ?_
    refine zr_iload_4 hO dL_law_1355 ?_
    refine zr_iconst (v := 1) hO dL_law_1357 (by decide) ?_
    refine zr_iadd hO dL_law_1358 ?_
    refine zV_pc (pc' := 1359) rfl ?_
    refine zr_sld hO (by rw [nI_1]; exact sidx hLL hi (by decide)) dL_law_1359 ?_
    refine zr_aload_0 hO dL_law_1360 ?_
    refine zr_iload_4 hO dL_law_1361 ?_
    refine zr_iconst (v := 2) hO dL_law_1363 (by decide) ?_
    refine zr_iadd hO dL_law_1364 ?_
    refine zV_pc (pc' := 1365) rfl ?_
    refine zr_sld hO (by rw [nI_2]; exact sidx hLL hi (by decide)) dL_law_1365 ?_
    rw [st3_M]
    refine zV_pc (pc' := 1366) rfl ?_
    refine zr_V2 (D := D) hO hRm hL (by omega) (by decide) (c := 7) (by decide) (zM_0 hM) rfl rfl (e_X7_told (d := D - 1) htr hM (by omega) hW) zl_L_185 zi_X7_told zs_X7_told zc_X7_told zn_X7 zd_X7_told (Nat.le_of_ble_eq_true rfl) dL_law_1366 (by omega) (by omega) ?_
    rw [← eP]
    rw [← st3_M]
    refine zV_pc (pc' := 1369) rfl ?_
    refine zr_istore_6 hO dL_law_1369 (by decide) rfl ?_
    refine zr_aload_2 hO dL_law_1371 ?_
    rw [st3_M]
    refine zV_pc (pc' := 1372) rfl ?_
    refine zr_V0 (D := D) hO hRm hL (by omega) (by decide) (c := 7) (by decide) (zM_0 hM) rfl rfl (e_X7_thrown (d := D - 1) htr hM (by omega)) zl_L_118 zi_X7_thrown zs_X7_thrown zc_X7_thrown zn_X7 zd_X7_thrown (Nat.le_of_ble_eq_true rfl) dL_law_1372 (by omega) (by omega) ?_
    rw [← st3_M]
    refine zV_pc (pc' := 1375) rfl ?_
    refine zr_iload_5 hO dL_law_1375 ?_
    refine zr_icmp_eq (tgt := 1382) hO dL_law_1377 (by decide) (fun c9 => ?_) (fun c9 => absurd hcv c9)
    refine zr_iload_5 hO dL_law_1382 ?_
    have fin : ∀ bc bs, 300 * j ≤ bc → 2500 * j ≤ bs → zV G X 9 bc bs (fun z => n ≤ z) ly τ2 (st3 σ x A2 B2 P.1) 1399 [some (.ref G.2.2.2.1), some (.ref x), some (.ref (x + 191)), some (.ref w), some (.int (nI i)), some (.int cv), some (.int P.2), none, none] [] := by
      intro bc bs g1 g2
      refine zr_goto (tgt := 2173) hO dL_law_1399 (by decide) ?_
      exact t_end H hn hq2 hu2 (by omega) g1 g2
    refine zr_if_ne (tgt := 1399) hO dL_law_1384 (by decide) (fun c9 => fin _ _ (by omega) (by omega)) (fun c8 => ?_)
    refine zr_aload_3 hO dL_law_1387 ?_
    refine zr_iconst (v := 0) hO dL_law_1388 (by decide) ?_
    refine zr_lald hO hw (zin_i ⟨by decide, by decide⟩) dL_law_1389 ?_
    refine zV_pc (pc' := 1390) rfl ?_
    refine zr_iload_6 hO dL_law_1390 ?_
    refine zr_i2l hO dL_law_1392 ?_
    refine zV_pc (pc' := 1393) rfl ?_
    refine zr_lcmp_eq (tgt := 1399) hO dL_law_1393 dL_law_1394 (by decide) (fun c7 => fin _ _ (by omega) (by omega)) (fun c7 => absurd (hval c8) c7)
  refine zr_aload_1 hO dL_law_1334 ?_
  refine zr_aload_0 hO dL_law_1335 ?_
  refine zr_iload_4 hO dL_law_1336 ?_
  refine zr_iconst (v := 1) hO dL_law_1338 (by decide) ?_
  refine zr_iadd hO dL_law_1339 ?_
  refine zV_pc (pc' := 1340) rfl ?_
  refine zr_sld hO (by rw [nI_1]; exact sidx hLL hi (by decide)) dL_law_1340 ?_
  refine zr_aload_0 hO dL_law_1341 ?_
  refine zr_iload_4 hO dL_law_1342 ?_
  refine zr_iconst (v := 2) hO dL_law_1344 (by decide) ?_
  refine zr_iadd hO dL_law_1345 ?_
  refine zV_pc (pc' := 1346) rfl ?_
  refine zr_sld hO (by rw [nI_2]; exact sidx hLL hi (by decide)) dL_law_1346 ?_
  refine zr_aload_3 hO dL_law_1347 ?_
  rw [st3_A]
  rcases hR : cP_told A (G.2.2.2.2.2 (ix (nI i + 1))) (G.2.2.2.2.2 (ix (nI i + 2))) with q9 | E9
  · rw [hR] at ag
    obtain ⟨g1, g2, g3⟩ := ag
    refine zV_pc (pc' := 1348) rfl ?_
    refine z_callSH (As := [.ref x, .int (G.2.2.2.2.2 (ix (nI i + 1))), .int (G.2.2.2.2.2 (ix (nI i + 2))), .ref w]) hO hRm hL (by omega) (by decide) rfl (e_L_told (d := D - 1) htr hX hA hw (fun E h => by rw [hR] at h; cases h) (by omega)) zl_L_183 zt_L_told zc_L_told rfl zn_L zd_L_told (Nat.le_of_ble_eq_true rfl) dL_law_1348 (by omega) (by omega) (fun E z ly9 τ9 σ9 h => ?_) (fun v z ly9 τ9 σ9 h => ?_)
    · obtain ⟨h1, rfl, h4⟩ := h
      rw [hR] at h4
      exact absurd h4.1 (by simp)
    · obtain ⟨h1, rfl, h4⟩ := h
      rw [hR] at h4
      obtain ⟨h5, rfl, rfl⟩ := h4
      cases h5
      refine zV_S (S' := fun z => n ≤ z) (fun z9 e9 => by subst e9; exact h1) ?_
      rw [← st3_A]
      refine zV_pc (pc' := 1351) rfl ?_
      exact rest 0 _ _ _ g2 (fun _ => by rw [← g1]; exact zupL_at _ _ _ _) g3 hU
  · rw [hR] at ag
    obtain ⟨g0, g2, g3⟩ := ag
    refine zV_pc (pc' := 1348) rfl ?_
    refine z_callSH (As := [.ref x, .int (G.2.2.2.2.2 (ix (nI i + 1))), .int (G.2.2.2.2.2 (ix (nI i + 2))), .ref w]) hO hRm hL (by omega) (by decide) rfl (e_L_told (d := D - 1) htr hX hA hw (fun E h => by rw [hR] at h; cases h; exact g0) (by omega)) zl_L_183 zt_L_told zc_L_told rfl zn_L zd_L_told (Nat.le_of_ble_eq_true rfl) dL_law_1348 (by omega) (by omega) (fun E z ly9 τ9 σ9 h => ?_) (fun v z ly9 τ9 σ9 h => ?_)
    · obtain ⟨h1, rfl, h4⟩ := h
      rw [hR] at h4
      exact absurd h4.1 (by simp)
    · obtain ⟨h1, rfl, h4⟩ := h
      rw [hR] at h4
      obtain ⟨h5, rfl, rfl⟩ := h4
      cases h5
      refine zV_S (S' := fun z => n ≤ z) (fun z9 e9 => by subst e9; exact h1) ?_
      rw [← st3_A]
      refine zV_pc (pc' := 1351) rfl ?_
      exact rest _ _ _ _ g2 (fun h0 => absurd h0 (by simp only [LXA, List.mem_cons, List.not_mem_nil, or_false] at g0; rcases g0 with rfl | rfl <;> decide)) g3 hU
set_option maxRecDepth 100000 in
set_option maxHeartbeats 1000000 in
theorem tu_processors {G : zGm} {X : zCx} {l : Launch} {D x w n j i nn K : Nat} {ly : zLy} {τ : zTu} {σ A B M : zSg} (H : zLw G X l D ly x w n) (hn : zHead G X ly σ x w n j (i + 4)) (hQ : zQR nn K A M) (hU : zU B) (hK : K + 160 * (j + 1) + 240 ≤ 190000) (hi : i + 4 ≤ G.2.2.2.2.1) : zV G X 9 (300 * (j + 1)) (2500 * (j + 1)) (fun z => n ≤ z) ly τ (st3 σ x A B M) 1402 [some (.ref G.2.2.2.1), some (.ref x), some (.ref (x + 191)), some (.ref w), some (.int (nI i)), none, none, none, none] [] := by
  obtain ⟨⟨hO, hRm, hL, hD, htr⟩, ⟨hX, hA, hB, hM, hw⟩, ⟨hxw, hwn⟩, hz, hLL⟩ := id H
  have hQ0 := zQR_0 hQ 0
  have hW := zI_W hQ.1
  refine zr_aload_1 hO dL_law_1402 ?_
  rw [st3_A]
  refine zr_V0 (D := D) hO hRm hL (by omega) (by decide) (c := 6) (by decide) hX rfl rfl (e_X6_processors (d := D - 1) htr hX hA (by omega)) zl_L_186 zi_X6_processors zs_X6_processors zc_X6_processors zn_X6 zd_X6_processors (Nat.le_of_ble_eq_true rfl) dL_law_1403 (by omega) (by omega) ?_
  rw [← st3_A]
  refine zr_aload_2 hO dL_law_1406 ?_
  rw [st3_M]
  refine zV_pc (pc' := 1407) rfl ?_
  refine zr_V0 (D := D) hO hRm hL (by omega) (by decide) (c := 7) (by decide) (zM_0 hM) rfl rfl (e_X7_processors (d := D - 1) htr hM (by omega) hW) zl_L_189 zi_X7_processors zs_X7_processors zc_X7_processors zn_X7 zd_X7_processors (Nat.le_of_ble_eq_true rfl) dL_law_1407 (by omega) (by omega) ?_
  rw [← st3_M]
  refine zV_pc (pc' := 1410) rfl ?_
  refine zr_icmp_eq (tgt := 2173) hO dL_law_1410 (by decide) (fun c9 => t_end H hn hQ0 hU (by omega) (by omega) (by omega)) (fun c9 => absurd (ze_pr (zI_E hQ0.1)) c9)
set_option maxRecDepth 100000 in
set_option maxHeartbeats 1000000 in
theorem tu_on {G : zGm} {X : zCx} {l : Launch} {D x w n j i nn K : Nat} {ly : zLy} {τ : zTu} {σ A B M : zSg} (H : zLw G X l D ly x w n) (hn : zHead G X ly σ x w n j (i + 4)) (hQ : zQR nn K A M) (hU : zU B) (hK : K + 160 * (j + 1) + 240 ≤ 190000) (hi : i + 4 ≤ G.2.2.2.2.1) : zV G X 9 (300 * (j + 1)) (2500 * (j + 1)) (fun z => n ≤ z) ly τ (st3 σ x A B M) 1415 [some (.ref G.2.2.2.1), some (.ref x), some (.ref (x + 191)), some (.ref w), some (.int (nI i)), none, none, none, none] [] := by
  obtain ⟨⟨hO, hRm, hL, hD, htr⟩, ⟨hX, hA, hB, hM, hw⟩, ⟨hxw, hwn⟩, hz, hLL⟩ := id H
  have hQ0 := zQR_0 hQ 0
  have hW := zI_W hQ.1
  have ag := c_on hQ (G.2.2.2.2.2 (ix (nI i + 1)))
  obtain ⟨P, eP⟩ : ∃ P, P = (mP_on M (G.2.2.2.2.2 (ix (nI i + 1)))) := ⟨_, rfl⟩
  rw [← eP] at ag
  have rest : ∀ (cv : Int32) (τ2 : zTu) (A2 B2 : zSg), P.1 0 0 = cv → (cv = 0 → τ2 w 0 = P.2.toInt64) → (∃ n', zQR n' K A2 P.1) → zU B2 → zV G X 9 (300 * (j + 1) - 1) (2500 * (j + 1) - 6) (fun z => n ≤ z) ly τ2 (st3 σ x A2 B2 M) 1426 [some (.ref G.2.2.2.1), some (.ref x), some (.ref (x + 191)), some (.ref w), some (.int (nI i)), none, none, none, none] [.int cv] := by
    intro cv τ2 A2 B2 hcv hval hq2 hu2
    obtain ⟨n', hq2⟩ := hq2
    refine zr_istore_5 hO dL_law_1426 (by decide) rfl ?_
    refine zr_aload_2 hO dL_law_1428 ?_
    refine zr_aload_0 hO dL_law_1429 ?_
    refine zr_iload_4 hO dL_law_1430 ?_
    refine zr_iconst (v := 1) hO dL_law_1432 (by decide) ?_
    refine zr_iadd hO dL_law_1433 ?_
    refine zV_pc (pc' := 1434) rfl ?_
    refine zr_sld hO (by rw [nI_1]; exact sidx hLL hi (by decide)) dL_law_1434 ?_
    rw [st3_M]
    refine zV_pc (pc' := 1435) rfl ?_
    refine zr_V1 (D := D) hO hRm hL (by omega) (by decide) (c := 7) (by decide) (zM_0 hM) rfl rfl (e_X7_on (d := D - 1) htr hM (by omega) hW) zl_L_192 zi_X7_on zs_X7_on zc_X7_on zn_X7 zd_X7_on (Nat.le_of_ble_eq_true rfl) dL_law_1435 (by omega) (by omega) ?_
    rw [← eP]
    rw [← st3_M]
    refine zV_pc (pc' := 1438) rfl ?_
    refine zr_istore_6 hO dL_law_1438 (by decide) rfl ?_
    refine zr_aload_2 hO dL_law_1440 ?_
    rw [st3_M]
    refine zV_pc (pc' := 1441) rfl ?_
    refine zr_V0 (D := D) hO hRm hL (by omega) (by decide) (c := 7) (by decide) (zM_0 hM) rfl rfl (e_X7_thrown (d := D - 1) htr hM (by omega)) zl_L_118 zi_X7_thrown zs_X7_thrown zc_X7_thrown zn_X7 zd_X7_thrown (Nat.le_of_ble_eq_true rfl) dL_law_1441 (by omega) (by omega) ?_
    rw [← st3_M]
    refine zV_pc (pc' := 1444) rfl ?_
    refine zr_iload_5 hO dL_law_1444 ?_
    refine zr_icmp_eq (tgt := 1451) hO dL_law_1446 (by decide) (fun c9 => ?_) (fun c9 => absurd hcv c9)
    refine zr_iload_5 hO dL_law_1451 ?_
    have fin : ∀ bc bs, 300 * j ≤ bc → 2500 * j ≤ bs → zV G X 9 bc bs (fun z => n ≤ z) ly τ2 (st3 σ x A2 B2 P.1) 1468 [some (.ref G.2.2.2.1), some (.ref x), some (.ref (x + 191)), some (.ref w), some (.int (nI i)), some (.int cv), some (.int P.2), none, none] [] := by
      intro bc bs g1 g2
      refine zr_goto (tgt := 2173) hO dL_law_1468 (by decide) ?_
      exact t_end H hn hq2 hu2 (by omega) g1 g2
    refine zr_if_ne (tgt := 1468) hO dL_law_1453 (by decide) (fun c9 => fin _ _ (by omega) (by omega)) (fun c8 => ?_)
    refine zr_aload_3 hO dL_law_1456 ?_
    refine zr_iconst (v := 0) hO dL_law_1457 (by decide) ?_
    refine zr_lald hO hw (zin_i ⟨by decide, by decide⟩) dL_law_1458 ?_
    refine zV_pc (pc' := 1459) rfl ?_
    refine zr_iload_6 hO dL_law_1459 ?_
    refine zr_i2l hO dL_law_1461 ?_
    refine zV_pc (pc' := 1462) rfl ?_
    refine zr_lcmp_eq (tgt := 1468) hO dL_law_1462 dL_law_1463 (by decide) (fun c7 => fin _ _ (by omega) (by omega)) (fun c7 => absurd (hval c8) c7)
  refine zr_aload_1 hO dL_law_1415 ?_
  refine zr_aload_0 hO dL_law_1416 ?_
  refine zr_iload_4 hO dL_law_1417 ?_
  refine zr_iconst (v := 1) hO dL_law_1419 (by decide) ?_
  refine zr_iadd hO dL_law_1420 ?_
  refine zV_pc (pc' := 1421) rfl ?_
  refine zr_sld hO (by rw [nI_1]; exact sidx hLL hi (by decide)) dL_law_1421 ?_
  refine zr_aload_3 hO dL_law_1422 ?_
  rw [st3_A]
  rcases hR : cP_on A (G.2.2.2.2.2 (ix (nI i + 1))) with q9 | E9
  · rw [hR] at ag
    obtain ⟨g1, g2, g3⟩ := ag
    refine zV_pc (pc' := 1423) rfl ?_
    refine z_callSH (As := [.ref x, .int (G.2.2.2.2.2 (ix (nI i + 1))), .ref w]) hO hRm hL (by omega) (by decide) rfl (e_L_on (d := D - 1) htr hX hA hw (fun E h => by rw [hR] at h; cases h) (by omega)) zl_L_190 zt_L_on zc_L_on rfl zn_L zd_L_on (Nat.le_of_ble_eq_true rfl) dL_law_1423 (by omega) (by omega) (fun E z ly9 τ9 σ9 h => ?_) (fun v z ly9 τ9 σ9 h => ?_)
    · obtain ⟨h1, rfl, h4⟩ := h
      rw [hR] at h4
      exact absurd h4.1 (by simp)
    · obtain ⟨h1, rfl, h4⟩ := h
      rw [hR] at h4
      obtain ⟨h5, rfl, rfl⟩ := h4
      cases h5
      refine zV_S (S' := fun z => n ≤ z) (fun z9 e9 => by subst e9; exact h1) ?_
      rw [← st3_A]
      refine zV_pc (pc' := 1426) rfl ?_
      exact rest 0 _ _ _ g2 (fun _ => by rw [← g1]; exact zupL_at _ _ _ _) g3 hU
  · rw [hR] at ag
    obtain ⟨g0, g2, g3⟩ := ag
    refine zV_pc (pc' := 1423) rfl ?_
    refine z_callSH (As := [.ref x, .int (G.2.2.2.2.2 (ix (nI i + 1))), .ref w]) hO hRm hL (by omega) (by decide) rfl (e_L_on (d := D - 1) htr hX hA hw (fun E h => by rw [hR] at h; cases h; exact g0) (by omega)) zl_L_190 zt_L_on zc_L_on rfl zn_L zd_L_on (Nat.le_of_ble_eq_true rfl) dL_law_1423 (by omega) (by omega) (fun E z ly9 τ9 σ9 h => ?_) (fun v z ly9 τ9 σ9 h => ?_)
    · obtain ⟨h1, rfl, h4⟩ := h
      rw [hR] at h4
      exact absurd h4.1 (by simp)
    · obtain ⟨h1, rfl, h4⟩ := h
      rw [hR] at h4
      obtain ⟨h5, rfl, rfl⟩ := h4
      cases h5
      refine zV_S (S' := fun z => n ≤ z) (fun z9 e9 => by subst e9; exact h1) ?_
      rw [← st3_A]
      refine zV_pc (pc' := 1426) rfl ?_
      exact rest _ _ _ _ g2 (fun h0 => absurd h0 (by simp only [LX, List.mem_cons, List.not_mem_nil, or_false] at g0; subst g0; decide)) g3 hU
set_option maxRecDepth 100000 in
set_option maxHeartbeats 1000000 in
theorem tu_ran {G : zGm} {X : zCx} {l : Launch} {D x w n j i nn K : Nat} {ly : zLy} {τ : zTu} {σ A B M : zSg} (H : zLw G X l D ly x w n) (hn : zHead G X ly σ x w n j (i + 4)) (hQ : zQR nn K A M) (hU : zU B) (hK : K + 160 * (j + 1) + 240 ≤ 190000) (hi : i + 4 ≤ G.2.2.2.2.1) : zV G X 9 (300 * (j + 1)) (2500 * (j + 1)) (fun z => n ≤ z) ly τ (st3 σ x A B M) 1471 [some (.ref G.2.2.2.1), some (.ref x), some (.ref (x + 191)), some (.ref w), some (.int (nI i)), none, none, none, none] [] := by
  obtain ⟨⟨hO, hRm, hL, hD, htr⟩, ⟨hX, hA, hB, hM, hw⟩, ⟨hxw, hwn⟩, hz, hLL⟩ := id H
  have hQ0 := zQR_0 hQ 0
  have hW := zI_W hQ.1
  have ag := c_ran hQ (by omega) (G.2.2.2.2.2 (ix (nI i + 1))) (G.2.2.2.2.2 (ix (nI i + 2)))
  obtain ⟨P, eP⟩ : ∃ P, P = (mP_ran M (G.2.2.2.2.2 (ix (nI i + 1))) (G.2.2.2.2.2 (ix (nI i + 2)))) := ⟨_, rfl⟩
  rw [← eP] at ag
  have rest : ∀ (cv : Int32) (τ2 : zTu) (A2 B2 : zSg), P.1 0 0 = cv → (cv = 0 → τ2 w 0 = P.2.toInt64) → (∃ n', zQR n' K A2 P.1) → zU B2 → zV G X 9 (300 * (j + 1) - 1) (2500 * (j + 1) - 6) (fun z => n ≤ z) ly τ2 (st3 σ x A2 B2 M) 1488 [some (.ref G.2.2.2.1), some (.ref x), some (.ref (x + 191)), some (.ref w), some (.int (nI i)), none, none, none, none] [.int cv] := by
    intro cv τ2 A2 B2 hcv hval hq2 hu2
    obtain ⟨n', hq2⟩ := hq2
    refine zr_istore_5 hO dL_law_1488 (by decide) rfl ?_
    refine zr_aload_2 hO dL_law_1490 ?_
    refine zr_aload_0 hO dL_law_1491 ?_
    refine zr_iload_4 hO dL_law_1492 ?_
    refine zr_iconst (v := 1) hO dL_law_1494 (by decide) ?_
    refine zr_iadd hO dL_law_1495 ?_
    refine zV_pc (pc' := 1496) rfl ?_
    refine zr_sld hO (by rw [nI_1]; exact sidx hLL hi (by decide)) dL_law_1496 ?_
    refine zr_aload_0 hO dL_law_1497 ?_
    refine zr_iload_4 hO dL_law_1498 ?_
    refine zr_iconst (v := 2) hO dL_law_1500 (by decide) ?_
    refine zr_iadd hO dL_law_1501 ?_
    refine zV_pc (pc' := 1502) rfl ?_
    refine zr_sld hO (by rw [nI_2]; exact sidx hLL hi (by decide)) dL_law_1502 ?_
    rw [st3_M]
    refine zV_pc (pc' := 1503) rfl ?_
    refine zr_V2 (D := D) hO hRm hL (by omega) (by decide) (c := 7) (by decide) (zM_0 hM) rfl rfl (e_X7_ran (d := D - 1) htr hM (by omega) hW) zl_L_195 zi_X7_ran zs_X7_ran zc_X7_ran zn_X7 zd_X7_ran (Nat.le_of_ble_eq_true rfl) dL_law_1503 (by omega) (by omega) ?_
    rw [← eP]
    rw [← st3_M]
    refine zV_pc (pc' := 1506) rfl ?_
    refine zr_istore_6 hO dL_law_1506 (by decide) rfl ?_
    refine zr_aload_2 hO dL_law_1508 ?_
    rw [st3_M]
    refine zV_pc (pc' := 1509) rfl ?_
    refine zr_V0 (D := D) hO hRm hL (by omega) (by decide) (c := 7) (by decide) (zM_0 hM) rfl rfl (e_X7_thrown (d := D - 1) htr hM (by omega)) zl_L_118 zi_X7_thrown zs_X7_thrown zc_X7_thrown zn_X7 zd_X7_thrown (Nat.le_of_ble_eq_true rfl) dL_law_1509 (by omega) (by omega) ?_
    rw [← st3_M]
    refine zV_pc (pc' := 1512) rfl ?_
    refine zr_iload_5 hO dL_law_1512 ?_
    refine zr_icmp_eq (tgt := 1519) hO dL_law_1514 (by decide) (fun c9 => ?_) (fun c9 => absurd hcv c9)
    refine zr_iload_5 hO dL_law_1519 ?_
    have fin : ∀ bc bs, 300 * j ≤ bc → 2500 * j ≤ bs → zV G X 9 bc bs (fun z => n ≤ z) ly τ2 (st3 σ x A2 B2 P.1) 1536 [some (.ref G.2.2.2.1), some (.ref x), some (.ref (x + 191)), some (.ref w), some (.int (nI i)), some (.int cv), some (.int P.2), none, none] [] := by
      intro bc bs g1 g2
      refine zr_goto (tgt := 2173) hO dL_law_1536 (by decide) ?_
      exact t_end H hn hq2 hu2 (by omega) g1 g2
    refine zr_if_ne (tgt := 1536) hO dL_law_1521 (by decide) (fun c9 => fin _ _ (by omega) (by omega)) (fun c8 => ?_)
    refine zr_aload_3 hO dL_law_1524 ?_
    refine zr_iconst (v := 0) hO dL_law_1525 (by decide) ?_
    refine zr_lald hO hw (zin_i ⟨by decide, by decide⟩) dL_law_1526 ?_
    refine zV_pc (pc' := 1527) rfl ?_
    refine zr_iload_6 hO dL_law_1527 ?_
    refine zr_i2l hO dL_law_1529 ?_
    refine zV_pc (pc' := 1530) rfl ?_
    refine zr_lcmp_eq (tgt := 1536) hO dL_law_1530 dL_law_1531 (by decide) (fun c7 => fin _ _ (by omega) (by omega)) (fun c7 => absurd (hval c8) c7)
  refine zr_aload_1 hO dL_law_1471 ?_
  refine zr_aload_0 hO dL_law_1472 ?_
  refine zr_iload_4 hO dL_law_1473 ?_
  refine zr_iconst (v := 1) hO dL_law_1475 (by decide) ?_
  refine zr_iadd hO dL_law_1476 ?_
  refine zV_pc (pc' := 1477) rfl ?_
  refine zr_sld hO (by rw [nI_1]; exact sidx hLL hi (by decide)) dL_law_1477 ?_
  refine zr_aload_0 hO dL_law_1478 ?_
  refine zr_iload_4 hO dL_law_1479 ?_
  refine zr_iconst (v := 2) hO dL_law_1481 (by decide) ?_
  refine zr_iadd hO dL_law_1482 ?_
  refine zV_pc (pc' := 1483) rfl ?_
  refine zr_sld hO (by rw [nI_2]; exact sidx hLL hi (by decide)) dL_law_1483 ?_
  refine zr_aload_3 hO dL_law_1484 ?_
  rw [st3_A]
  rcases hR : cP_ran A (G.2.2.2.2.2 (ix (nI i + 1))) (G.2.2.2.2.2 (ix (nI i + 2))) with q9 | E9
  · rw [hR] at ag
    obtain ⟨g1, g2, g3⟩ := ag
    refine zV_pc (pc' := 1485) rfl ?_
    refine z_callSH (As := [.ref x, .int (G.2.2.2.2.2 (ix (nI i + 1))), .int (G.2.2.2.2.2 (ix (nI i + 2))), .ref w]) hO hRm hL (by omega) (by decide) rfl (e_L_ran (d := D - 1) htr hX hA hw (fun E h => by rw [hR] at h; cases h) (by omega)) zl_L_193 zt_L_ran zc_L_ran rfl zn_L zd_L_ran (Nat.le_of_ble_eq_true rfl) dL_law_1485 (by omega) (by omega) (fun E z ly9 τ9 σ9 h => ?_) (fun v z ly9 τ9 σ9 h => ?_)
    · obtain ⟨h1, rfl, h4⟩ := h
      rw [hR] at h4
      exact absurd h4.1 (by simp)
    · obtain ⟨h1, rfl, h4⟩ := h
      rw [hR] at h4
      obtain ⟨h5, rfl, rfl⟩ := h4
      cases h5
      refine zV_S (S' := fun z => n ≤ z) (fun z9 e9 => by subst e9; exact h1) ?_
      rw [← st3_A]
      refine zV_pc (pc' := 1488) rfl ?_
      exact rest 0 _ _ _ g2 (fun _ => by rw [← g1]; exact zupL_at _ _ _ _) g3 hU
  · rw [hR] at ag
    obtain ⟨g0, g2, g3⟩ := ag
    refine zV_pc (pc' := 1485) rfl ?_
    refine z_callSH (As := [.ref x, .int (G.2.2.2.2.2 (ix (nI i + 1))), .int (G.2.2.2.2.2 (ix (nI i + 2))), .ref w]) hO hRm hL (by omega) (by decide) rfl (e_L_ran (d := D - 1) htr hX hA hw (fun E h => by rw [hR] at h; cases h; exact g0) (by omega)) zl_L_193 zt_L_ran zc_L_ran rfl zn_L zd_L_ran (Nat.le_of_ble_eq_true rfl) dL_law_1485 (by omega) (by omega) (fun E z ly9 τ9 σ9 h => ?_) (fun v z ly9 τ9 σ9 h => ?_)
    · obtain ⟨h1, rfl, h4⟩ := h
      rw [hR] at h4
      exact absurd h4.1 (by simp)
    · obtain ⟨h1, rfl, h4⟩ := h
      rw [hR] at h4
      obtain ⟨h5, rfl, rfl⟩ := h4
      cases h5
      refine zV_S (S' := fun z => n ≤ z) (fun z9 e9 => by subst e9; exact h1) ?_
      rw [← st3_A]
      refine zV_pc (pc' := 1488) rfl ?_
      exact rest _ _ _ _ g2 (fun h0 => absurd h0 (by simp only [LXA, List.mem_cons, List.not_mem_nil, or_false] at g0; rcases g0 with rfl | rfl <;> decide)) g3 hU
set_option maxRecDepth 100000 in
set_option maxHeartbeats 1000000 in
theorem tu_switches {G : zGm} {X : zCx} {l : Launch} {D x w n j i nn K : Nat} {ly : zLy} {τ : zTu} {σ A B M : zSg} (H : zLw G X l D ly x w n) (hn : zHead G X ly σ x w n j (i + 4)) (hQ : zQR nn K A M) (hU : zU B) (hK : K + 160 * (j + 1) + 240 ≤ 190000) (hi : i + 4 ≤ G.2.2.2.2.1) : zV G X 9 (300 * (j + 1)) (2500 * (j + 1)) (fun z => n ≤ z) ly τ (st3 σ x A B M) 1539 [some (.ref G.2.2.2.1), some (.ref x), some (.ref (x + 191)), some (.ref w), some (.int (nI i)), none, none, none, none] [] := by
  obtain ⟨⟨hO, hRm, hL, hD, htr⟩, ⟨hX, hA, hB, hM, hw⟩, ⟨hxw, hwn⟩, hz, hLL⟩ := id H
  have hQ0 := zQR_0 hQ 0
  have hW := zI_W hQ.1
  refine zr_aload_1 hO dL_law_1539 ?_
  rw [st3_A]
  refine zr_V0 (D := D) hO hRm hL (by omega) (by decide) (c := 6) (by decide) hX rfl rfl (e_X6_switches (d := D - 1) htr hX hA (by omega)) zl_L_196 zi_X6_switches zs_X6_switches zc_X6_switches zn_X6 zd_X6_switches (Nat.le_of_ble_eq_true rfl) dL_law_1540 (by omega) (by omega) ?_
  rw [← st3_A]
  refine zr_aload_2 hO dL_law_1543 ?_
  rw [st3_M]
  refine zV_pc (pc' := 1544) rfl ?_
  refine zr_V0 (D := D) hO hRm hL (by omega) (by decide) (c := 7) (by decide) (zM_0 hM) rfl rfl (e_X7_switches (d := D - 1) htr hM (by omega) hW) zl_L_199 zi_X7_switches zs_X7_switches zc_X7_switches zn_X7 zd_X7_switches (Nat.le_of_ble_eq_true rfl) dL_law_1544 (by omega) (by omega) ?_
  rw [← st3_M]
  refine zV_pc (pc' := 1547) rfl ?_
  refine zr_icmp_eq (tgt := 2173) hO dL_law_1547 (by decide) (fun c9 => t_end H hn hQ0 hU (by omega) (by omega) (by omega)) (fun c9 => absurd ((hQ0.2.1.1.trans (Int32.add_zero _))) c9)
set_option maxRecDepth 100000 in
set_option maxHeartbeats 1000000 in
theorem tu_idle {G : zGm} {X : zCx} {l : Launch} {D x w n j i nn K : Nat} {ly : zLy} {τ : zTu} {σ A B M : zSg} (H : zLw G X l D ly x w n) (hn : zHead G X ly σ x w n j (i + 4)) (hQ : zQR nn K A M) (hU : zU B) (hK : K + 160 * (j + 1) + 240 ≤ 190000) (hi : i + 4 ≤ G.2.2.2.2.1) : zV G X 9 (300 * (j + 1)) (2500 * (j + 1)) (fun z => n ≤ z) ly τ (st3 σ x A B M) 1552 [some (.ref G.2.2.2.1), some (.ref x), some (.ref (x + 191)), some (.ref w), some (.int (nI i)), none, none, none, none] [] := by
  obtain ⟨⟨hO, hRm, hL, hD, htr⟩, ⟨hX, hA, hB, hM, hw⟩, ⟨hxw, hwn⟩, hz, hLL⟩ := id H
  have hQ0 := zQR_0 hQ 0
  have hW := zI_W hQ.1
  refine zr_aload_1 hO dL_law_1552 ?_
  rw [st3_A]
  refine zr_V0 (D := D) hO hRm hL (by omega) (by decide) (c := 6) (by decide) hX rfl rfl (e_X6_idle (d := D - 1) htr hX hA (by omega)) zl_L_200 zi_X6_idle zs_X6_idle zc_X6_idle zn_X6 zd_X6_idle (Nat.le_of_ble_eq_true rfl) dL_law_1553 (by omega) (by omega) ?_
  rw [← st3_A]
  refine zr_aload_2 hO dL_law_1556 ?_
  rw [st3_M]
  refine zV_pc (pc' := 1557) rfl ?_
  refine zr_V0 (D := D) hO hRm hL (by omega) (by decide) (c := 7) (by decide) (zM_0 hM) rfl rfl (e_X7_idle (d := D - 1) htr hM (by omega) hW) zl_L_203 zi_X7_idle zs_X7_idle zc_X7_idle zn_X7 zd_X7_idle (Nat.le_of_ble_eq_true rfl) dL_law_1557 (by omega) (by omega) ?_
  rw [← st3_M]
  refine zV_pc (pc' := 1560) rfl ?_
  refine zr_icmp_eq (tgt := 2173) hO dL_law_1560 (by decide) (fun c9 => t_end H hn hQ0 hU (by omega) (by omega) (by omega)) (fun c9 => absurd ((hQ0.2.1.2.1.trans (Int32.add_zero _))) c9)
set_option maxRecDepth 100000 in
set_option maxHeartbeats 1000000 in
theorem tu_used {G : zGm} {X : zCx} {l : Launch} {D x w n j i nn K : Nat} {ly : zLy} {τ : zTu} {σ A B M : zSg} (H : zLw G X l D ly x w n) (hn : zHead G X ly σ x w n j (i + 4)) (hQ : zQR nn K A M) (hU : zU B) (hK : K + 160 * (j + 1) + 240 ≤ 190000) (hi : i + 4 ≤ G.2.2.2.2.1) : zV G X 9 (300 * (j + 1)) (2500 * (j + 1)) (fun z => n ≤ z) ly τ (st3 σ x A B M) 1565 [some (.ref G.2.2.2.1), some (.ref x), some (.ref (x + 191)), some (.ref w), some (.int (nI i)), none, none, none, none] [] := by
  obtain ⟨⟨hO, hRm, hL, hD, htr⟩, ⟨hX, hA, hB, hM, hw⟩, ⟨hxw, hwn⟩, hz, hLL⟩ := id H
  have hQ0 := zQR_0 hQ 0
  have hW := zI_W hQ.1
  have ag := c_used hQ (G.2.2.2.2.2 (ix (nI i + 1)))
  obtain ⟨P, eP⟩ : ∃ P, P = (mP_used M (G.2.2.2.2.2 (ix (nI i + 1)))) := ⟨_, rfl⟩
  rw [← eP] at ag
  have rest : ∀ (cv : Int32) (τ2 : zTu) (A2 B2 : zSg), P.1 0 0 = cv → (cv = 0 → τ2 w 0 = P.2.toInt64) → (∃ n', zQR n' K A2 P.1) → zU B2 → zV G X 9 (300 * (j + 1) - 1) (2500 * (j + 1) - 6) (fun z => n ≤ z) ly τ2 (st3 σ x A2 B2 M) 1576 [some (.ref G.2.2.2.1), some (.ref x), some (.ref (x + 191)), some (.ref w), some (.int (nI i)), none, none, none, none] [.int cv] := by
    intro cv τ2 A2 B2 hcv hval hq2 hu2
    obtain ⟨n', hq2⟩ := hq2
    refine zr_istore_5 hO dL_law_1576 (by decide) rfl ?_
    refine zr_aload_2 hO dL_law_1578 ?_
    refine zr_aload_0 hO dL_law_1579 ?_
    refine zr_iload_4 hO dL_law_1580 ?_
    refine zr_iconst (v := 1) hO dL_law_1582 (by decide) ?_
    refine zr_iadd hO dL_law_1583 ?_
    refine zV_pc (pc' := 1584) rfl ?_
    refine zr_sld hO (by rw [nI_1]; exact sidx hLL hi (by decide)) dL_law_1584 ?_
    rw [st3_M]
    refine zV_pc (pc' := 1585) rfl ?_
    refine zr_V1 (D := D) hO hRm hL (by omega) (by decide) (c := 7) (by decide) (zM_0 hM) rfl rfl (e_X7_used (d := D - 1) htr hM (by omega) hW) zl_L_206 zi_X7_used zs_X7_used zc_X7_used zn_X7 zd_X7_used (Nat.le_of_ble_eq_true rfl) dL_law_1585 (by omega) (by omega) ?_
    rw [← eP]
    rw [← st3_M]
    refine zV_pc (pc' := 1588) rfl ?_
    refine zr_istore_6 hO dL_law_1588 (by decide) rfl ?_
    refine zr_aload_2 hO dL_law_1590 ?_
    rw [st3_M]
    refine zV_pc (pc' := 1591) rfl ?_
    refine zr_V0 (D := D) hO hRm hL (by omega) (by decide) (c := 7) (by decide) (zM_0 hM) rfl rfl (e_X7_thrown (d := D - 1) htr hM (by omega)) zl_L_118 zi_X7_thrown zs_X7_thrown zc_X7_thrown zn_X7 zd_X7_thrown (Nat.le_of_ble_eq_true rfl) dL_law_1591 (by omega) (by omega) ?_
    rw [← st3_M]
    refine zV_pc (pc' := 1594) rfl ?_
    refine zr_iload_5 hO dL_law_1594 ?_
    refine zr_icmp_eq (tgt := 1601) hO dL_law_1596 (by decide) (fun c9 => ?_) (fun c9 => absurd hcv c9)
    refine zr_iload_5 hO dL_law_1601 ?_
    have fin : ∀ bc bs, 300 * j ≤ bc → 2500 * j ≤ bs → zV G X 9 bc bs (fun z => n ≤ z) ly τ2 (st3 σ x A2 B2 P.1) 1618 [some (.ref G.2.2.2.1), some (.ref x), some (.ref (x + 191)), some (.ref w), some (.int (nI i)), some (.int cv), some (.int P.2), none, none] [] := by
      intro bc bs g1 g2
      refine zr_goto (tgt := 2173) hO dL_law_1618 (by decide) ?_
      exact t_end H hn hq2 hu2 (by omega) g1 g2
    refine zr_if_ne (tgt := 1618) hO dL_law_1603 (by decide) (fun c9 => fin _ _ (by omega) (by omega)) (fun c8 => ?_)
    refine zr_aload_3 hO dL_law_1606 ?_
    refine zr_iconst (v := 0) hO dL_law_1607 (by decide) ?_
    refine zr_lald hO hw (zin_i ⟨by decide, by decide⟩) dL_law_1608 ?_
    refine zV_pc (pc' := 1609) rfl ?_
    refine zr_iload_6 hO dL_law_1609 ?_
    refine zr_i2l hO dL_law_1611 ?_
    refine zV_pc (pc' := 1612) rfl ?_
    refine zr_lcmp_eq (tgt := 1618) hO dL_law_1612 dL_law_1613 (by decide) (fun c7 => fin _ _ (by omega) (by omega)) (fun c7 => absurd (hval c8) c7)
  refine zr_aload_1 hO dL_law_1565 ?_
  refine zr_aload_0 hO dL_law_1566 ?_
  refine zr_iload_4 hO dL_law_1567 ?_
  refine zr_iconst (v := 1) hO dL_law_1569 (by decide) ?_
  refine zr_iadd hO dL_law_1570 ?_
  refine zV_pc (pc' := 1571) rfl ?_
  refine zr_sld hO (by rw [nI_1]; exact sidx hLL hi (by decide)) dL_law_1571 ?_
  refine zr_aload_3 hO dL_law_1572 ?_
  rw [st3_A]
  rcases hR : cP_used A (G.2.2.2.2.2 (ix (nI i + 1))) with q9 | E9
  · rw [hR] at ag
    obtain ⟨g1, g2, g3⟩ := ag
    refine zV_pc (pc' := 1573) rfl ?_
    refine z_callSH (As := [.ref x, .int (G.2.2.2.2.2 (ix (nI i + 1))), .ref w]) hO hRm hL (by omega) (by decide) rfl (e_L_used (d := D - 1) htr hX hA hw (fun E h => by rw [hR] at h; cases h) (by omega)) zl_L_204 zt_L_used zc_L_used rfl zn_L zd_L_used (Nat.le_of_ble_eq_true rfl) dL_law_1573 (by omega) (by omega) (fun E z ly9 τ9 σ9 h => ?_) (fun v z ly9 τ9 σ9 h => ?_)
    · obtain ⟨h1, rfl, h4⟩ := h
      rw [hR] at h4
      exact absurd h4.1 (by simp)
    · obtain ⟨h1, rfl, h4⟩ := h
      rw [hR] at h4
      obtain ⟨h5, rfl, rfl⟩ := h4
      cases h5
      refine zV_S (S' := fun z => n ≤ z) (fun z9 e9 => by subst e9; exact h1) ?_
      rw [← st3_A]
      refine zV_pc (pc' := 1576) rfl ?_
      exact rest 0 _ _ _ g2 (fun _ => by rw [← g1]; exact zupL_at _ _ _ _) g3 hU
  · rw [hR] at ag
    obtain ⟨g0, g2, g3⟩ := ag
    refine zV_pc (pc' := 1573) rfl ?_
    refine z_callSH (As := [.ref x, .int (G.2.2.2.2.2 (ix (nI i + 1))), .ref w]) hO hRm hL (by omega) (by decide) rfl (e_L_used (d := D - 1) htr hX hA hw (fun E h => by rw [hR] at h; cases h; exact g0) (by omega)) zl_L_204 zt_L_used zc_L_used rfl zn_L zd_L_used (Nat.le_of_ble_eq_true rfl) dL_law_1573 (by omega) (by omega) (fun E z ly9 τ9 σ9 h => ?_) (fun v z ly9 τ9 σ9 h => ?_)
    · obtain ⟨h1, rfl, h4⟩ := h
      rw [hR] at h4
      exact absurd h4.1 (by simp)
    · obtain ⟨h1, rfl, h4⟩ := h
      rw [hR] at h4
      obtain ⟨h5, rfl, rfl⟩ := h4
      cases h5
      refine zV_S (S' := fun z => n ≤ z) (fun z9 e9 => by subst e9; exact h1) ?_
      rw [← st3_A]
      refine zV_pc (pc' := 1576) rfl ?_
      exact rest _ _ _ _ g2 (fun h0 => absurd h0 (by simp only [LX, List.mem_cons, List.not_mem_nil, or_false] at g0; subst g0; decide)) g3 hU
set_option maxRecDepth 100000 in
set_option maxHeartbeats 1000000 in
theorem tu_holder {G : zGm} {X : zCx} {l : Launch} {D x w n j i nn K : Nat} {ly : zLy} {τ : zTu} {σ A B M : zSg} (H : zLw G X l D ly x w n) (hn : zHead G X ly σ x w n j (i + 4)) (hQ : zQR nn K A M) (hU : zU B) (hK : K + 160 * (j + 1) + 240 ≤ 190000) (hi : i + 4 ≤ G.2.2.2.2.1) : zV G X 9 (300 * (j + 1)) (2500 * (j + 1)) (fun z => n ≤ z) ly τ (st3 σ x A B M) 1621 [some (.ref G.2.2.2.1), some (.ref x), some (.ref (x + 191)), some (.ref w), some (.int (nI i)), none, none, none, none] [] := by
  obtain ⟨⟨hO, hRm, hL, hD, htr⟩, ⟨hX, hA, hB, hM, hw⟩, ⟨hxw, hwn⟩, hz, hLL⟩ := id H
  have hQ0 := zQR_0 hQ 0
  have hW := zI_W hQ.1
  have ag := c_holder hQ (G.2.2.2.2.2 (ix (nI i + 1)))
  obtain ⟨P, eP⟩ : ∃ P, P = (mP_holder M (G.2.2.2.2.2 (ix (nI i + 1)))) := ⟨_, rfl⟩
  rw [← eP] at ag
  have rest : ∀ (cv : Int32) (τ2 : zTu) (A2 B2 : zSg), P.1 0 0 = cv → (cv = 0 → τ2 w 0 = P.2.toInt64) → (∃ n', zQR n' K A2 P.1) → zU B2 → zV G X 9 (300 * (j + 1) - 1) (2500 * (j + 1) - 6) (fun z => n ≤ z) ly τ2 (st3 σ x A2 B2 M) 1632 [some (.ref G.2.2.2.1), some (.ref x), some (.ref (x + 191)), some (.ref w), some (.int (nI i)), none, none, none, none] [.int cv] := by
    intro cv τ2 A2 B2 hcv hval hq2 hu2
    obtain ⟨n', hq2⟩ := hq2
    refine zr_istore_5 hO dL_law_1632 (by decide) rfl ?_
    refine zr_aload_2 hO dL_law_1634 ?_
    refine zr_aload_0 hO dL_law_1635 ?_
    refine zr_iload_4 hO dL_law_1636 ?_
    refine zr_iconst (v := 1) hO dL_law_1638 (by decide) ?_
    refine zr_iadd hO dL_law_1639 ?_
    refine zV_pc (pc' := 1640) rfl ?_
    refine zr_sld hO (by rw [nI_1]; exact sidx hLL hi (by decide)) dL_law_1640 ?_
    rw [st3_M]
    refine zV_pc (pc' := 1641) rfl ?_
    refine zr_V1 (D := D) hO hRm hL (by omega) (by decide) (c := 7) (by decide) (zM_0 hM) rfl rfl (e_X7_holder (d := D - 1) htr hM (by omega) hW) zl_L_209 zi_X7_holder zs_X7_holder zc_X7_holder zn_X7 zd_X7_holder (Nat.le_of_ble_eq_true rfl) dL_law_1641 (by omega) (by omega) ?_
    rw [← eP]
    rw [← st3_M]
    refine zV_pc (pc' := 1644) rfl ?_
    refine zr_istore_6 hO dL_law_1644 (by decide) rfl ?_
    refine zr_aload_2 hO dL_law_1646 ?_
    rw [st3_M]
    refine zV_pc (pc' := 1647) rfl ?_
    refine zr_V0 (D := D) hO hRm hL (by omega) (by decide) (c := 7) (by decide) (zM_0 hM) rfl rfl (e_X7_thrown (d := D - 1) htr hM (by omega)) zl_L_118 zi_X7_thrown zs_X7_thrown zc_X7_thrown zn_X7 zd_X7_thrown (Nat.le_of_ble_eq_true rfl) dL_law_1647 (by omega) (by omega) ?_
    rw [← st3_M]
    refine zV_pc (pc' := 1650) rfl ?_
    refine zr_iload_5 hO dL_law_1650 ?_
    refine zr_icmp_eq (tgt := 1657) hO dL_law_1652 (by decide) (fun c9 => ?_) (fun c9 => absurd hcv c9)
    refine zr_iload_5 hO dL_law_1657 ?_
    have fin : ∀ bc bs, 300 * j ≤ bc → 2500 * j ≤ bs → zV G X 9 bc bs (fun z => n ≤ z) ly τ2 (st3 σ x A2 B2 P.1) 1674 [some (.ref G.2.2.2.1), some (.ref x), some (.ref (x + 191)), some (.ref w), some (.int (nI i)), some (.int cv), some (.int P.2), none, none] [] := by
      intro bc bs g1 g2
      refine zr_goto (tgt := 2173) hO dL_law_1674 (by decide) ?_
      exact t_end H hn hq2 hu2 (by omega) g1 g2
    refine zr_if_ne (tgt := 1674) hO dL_law_1659 (by decide) (fun c9 => fin _ _ (by omega) (by omega)) (fun c8 => ?_)
    refine zr_aload_3 hO dL_law_1662 ?_
    refine zr_iconst (v := 0) hO dL_law_1663 (by decide) ?_
    refine zr_lald hO hw (zin_i ⟨by decide, by decide⟩) dL_law_1664 ?_
    refine zV_pc (pc' := 1665) rfl ?_
    refine zr_iload_6 hO dL_law_1665 ?_
    refine zr_i2l hO dL_law_1667 ?_
    refine zV_pc (pc' := 1668) rfl ?_
    refine zr_lcmp_eq (tgt := 1674) hO dL_law_1668 dL_law_1669 (by decide) (fun c7 => fin _ _ (by omega) (by omega)) (fun c7 => absurd (hval c8) c7)
  refine zr_aload_1 hO dL_law_1621 ?_
  refine zr_aload_0 hO dL_law_1622 ?_
  refine zr_iload_4 hO dL_law_1623 ?_
  refine zr_iconst (v := 1) hO dL_law_1625 (by decide) ?_
  refine zr_iadd hO dL_law_1626 ?_
  refine zV_pc (pc' := 1627) rfl ?_
  refine zr_sld hO (by rw [nI_1]; exact sidx hLL hi (by decide)) dL_law_1627 ?_
  refine zr_aload_3 hO dL_law_1628 ?_
  rw [st3_A]
  rcases hR : cP_lk A (G.2.2.2.2.2 (ix (nI i + 1))) (cF_holder A (G.2.2.2.2.2 (ix (nI i + 1)))) with q9 | E9
  · rw [hR] at ag
    obtain ⟨g1, g2, g3⟩ := ag
    refine zV_pc (pc' := 1629) rfl ?_
    refine z_callSH (As := [.ref x, .int (G.2.2.2.2.2 (ix (nI i + 1))), .ref w]) hO hRm hL (by omega) (by decide) rfl (e_L_holder (d := D - 1) htr hX hA hw (fun E h => by rw [hR] at h; cases h) (by omega)) zl_L_207 zt_L_holder zc_L_holder rfl zn_L zd_L_holder (Nat.le_of_ble_eq_true rfl) dL_law_1629 (by omega) (by omega) (fun E z ly9 τ9 σ9 h => ?_) (fun v z ly9 τ9 σ9 h => ?_)
    · obtain ⟨h1, rfl, h4⟩ := h
      rw [hR] at h4
      exact absurd h4.1 (by simp)
    · obtain ⟨h1, rfl, h4⟩ := h
      rw [hR] at h4
      obtain ⟨h5, rfl, rfl⟩ := h4
      cases h5
      refine zV_S (S' := fun z => n ≤ z) (fun z9 e9 => by subst e9; exact h1) ?_
      rw [← st3_A]
      refine zV_pc (pc' := 1632) rfl ?_
      exact rest 0 _ _ _ g2 (fun _ => by rw [← g1]; exact zupL_at _ _ _ _) g3 hU
  · rw [hR] at ag
    obtain ⟨g0, g2, g3⟩ := ag
    refine zV_pc (pc' := 1629) rfl ?_
    refine z_callSH (As := [.ref x, .int (G.2.2.2.2.2 (ix (nI i + 1))), .ref w]) hO hRm hL (by omega) (by decide) rfl (e_L_holder (d := D - 1) htr hX hA hw (fun E h => by rw [hR] at h; cases h; exact g0) (by omega)) zl_L_207 zt_L_holder zc_L_holder rfl zn_L zd_L_holder (Nat.le_of_ble_eq_true rfl) dL_law_1629 (by omega) (by omega) (fun E z ly9 τ9 σ9 h => ?_) (fun v z ly9 τ9 σ9 h => ?_)
    · obtain ⟨h1, rfl, h4⟩ := h
      rw [hR] at h4
      exact absurd h4.1 (by simp)
    · obtain ⟨h1, rfl, h4⟩ := h
      rw [hR] at h4
      obtain ⟨h5, rfl, rfl⟩ := h4
      cases h5
      refine zV_S (S' := fun z => n ≤ z) (fun z9 e9 => by subst e9; exact h1) ?_
      rw [← st3_A]
      refine zV_pc (pc' := 1632) rfl ?_
      exact rest _ _ _ _ g2 (fun h0 => absurd h0 (by simp only [LX, List.mem_cons, List.not_mem_nil, or_false] at g0; subst g0; decide)) g3 hU
set_option maxRecDepth 100000 in
set_option maxHeartbeats 1000000 in
theorem tu_blocked {G : zGm} {X : zCx} {l : Launch} {D x w n j i nn K : Nat} {ly : zLy} {τ : zTu} {σ A B M : zSg} (H : zLw G X l D ly x w n) (hn : zHead G X ly σ x w n j (i + 4)) (hQ : zQR nn K A M) (hU : zU B) (hK : K + 160 * (j + 1) + 240 ≤ 190000) (hi : i + 4 ≤ G.2.2.2.2.1) : zV G X 9 (300 * (j + 1)) (2500 * (j + 1)) (fun z => n ≤ z) ly τ (st3 σ x A B M) 1677 [some (.ref G.2.2.2.1), some (.ref x), some (.ref (x + 191)), some (.ref w), some (.int (nI i)), none, none, none, none] [] := by
  obtain ⟨⟨hO, hRm, hL, hD, htr⟩, ⟨hX, hA, hB, hM, hw⟩, ⟨hxw, hwn⟩, hz, hLL⟩ := id H
  have hQ0 := zQR_0 hQ 0
  have hW := zI_W hQ.1
  have ag := c_blocked hQ (G.2.2.2.2.2 (ix (nI i + 1)))
  obtain ⟨P, eP⟩ : ∃ P, P = (mP_waits M 4 (G.2.2.2.2.2 (ix (nI i + 1)))) := ⟨_, rfl⟩
  rw [← eP] at ag
  have rest : ∀ (cv : Int32) (τ2 : zTu) (A2 B2 : zSg), P.1 0 0 = cv → (cv = 0 → τ2 w 0 = P.2.toInt64) → (∃ n', zQR n' K A2 P.1) → zU B2 → zV G X 9 (300 * (j + 1) - 1) (2500 * (j + 1) - 6) (fun z => n ≤ z) ly τ2 (st3 σ x A2 B2 M) 1688 [some (.ref G.2.2.2.1), some (.ref x), some (.ref (x + 191)), some (.ref w), some (.int (nI i)), none, none, none, none] [.int cv] := by
    intro cv τ2 A2 B2 hcv hval hq2 hu2
    obtain ⟨n', hq2⟩ := hq2
    refine zr_istore_5 hO dL_law_1688 (by decide) rfl ?_
    refine zr_aload_2 hO dL_law_1690 ?_
    refine zr_aload_0 hO dL_law_1691 ?_
    refine zr_iload_4 hO dL_law_1692 ?_
    refine zr_iconst (v := 1) hO dL_law_1694 (by decide) ?_
    refine zr_iadd hO dL_law_1695 ?_
    refine zV_pc (pc' := 1696) rfl ?_
    refine zr_sld hO (by rw [nI_1]; exact sidx hLL hi (by decide)) dL_law_1696 ?_
    rw [st3_M]
    refine zV_pc (pc' := 1697) rfl ?_
    refine zr_V1 (D := D) hO hRm hL (by omega) (by decide) (c := 7) (by decide) (zM_0 hM) rfl rfl (e_X7_blocked (d := D - 1) htr hM (by omega) hW) zl_L_212 zi_X7_blocked zs_X7_blocked zc_X7_blocked zn_X7 zd_X7_blocked (Nat.le_of_ble_eq_true rfl) dL_law_1697 (by omega) (by omega) ?_
    rw [← eP]
    rw [← st3_M]
    refine zV_pc (pc' := 1700) rfl ?_
    refine zr_istore_6 hO dL_law_1700 (by decide) rfl ?_
    refine zr_aload_2 hO dL_law_1702 ?_
    rw [st3_M]
    refine zV_pc (pc' := 1703) rfl ?_
    refine zr_V0 (D := D) hO hRm hL (by omega) (by decide) (c := 7) (by decide) (zM_0 hM) rfl rfl (e_X7_thrown (d := D - 1) htr hM (by omega)) zl_L_118 zi_X7_thrown zs_X7_thrown zc_X7_thrown zn_X7 zd_X7_thrown (Nat.le_of_ble_eq_true rfl) dL_law_1703 (by omega) (by omega) ?_
    rw [← st3_M]
    refine zV_pc (pc' := 1706) rfl ?_
    refine zr_iload_5 hO dL_law_1706 ?_
    refine zr_icmp_eq (tgt := 1713) hO dL_law_1708 (by decide) (fun c9 => ?_) (fun c9 => absurd hcv c9)
    refine zr_iload_5 hO dL_law_1713 ?_
    have fin : ∀ bc bs, 300 * j ≤ bc → 2500 * j ≤ bs → zV G X 9 bc bs (fun z => n ≤ z) ly τ2 (st3 σ x A2 B2 P.1) 1730 [some (.ref G.2.2.2.1), some (.ref x), some (.ref (x + 191)), some (.ref w), some (.int (nI i)), some (.int cv), some (.int P.2), none, none] [] := by
      intro bc bs g1 g2
      refine zr_goto (tgt := 2173) hO dL_law_1730 (by decide) ?_
      exact t_end H hn hq2 hu2 (by omega) g1 g2
    refine zr_if_ne (tgt := 1730) hO dL_law_1715 (by decide) (fun c9 => fin _ _ (by omega) (by omega)) (fun c8 => ?_)
    refine zr_aload_3 hO dL_law_1718 ?_
    refine zr_iconst (v := 0) hO dL_law_1719 (by decide) ?_
    refine zr_lald hO hw (zin_i ⟨by decide, by decide⟩) dL_law_1720 ?_
    refine zV_pc (pc' := 1721) rfl ?_
    refine zr_iload_6 hO dL_law_1721 ?_
    refine zr_i2l hO dL_law_1723 ?_
    refine zV_pc (pc' := 1724) rfl ?_
    refine zr_lcmp_eq (tgt := 1730) hO dL_law_1724 dL_law_1725 (by decide) (fun c7 => fin _ _ (by omega) (by omega)) (fun c7 => absurd (hval c8) c7)
  refine zr_aload_1 hO dL_law_1677 ?_
  refine zr_aload_0 hO dL_law_1678 ?_
  refine zr_iload_4 hO dL_law_1679 ?_
  refine zr_iconst (v := 1) hO dL_law_1681 (by decide) ?_
  refine zr_iadd hO dL_law_1682 ?_
  refine zV_pc (pc' := 1683) rfl ?_
  refine zr_sld hO (by rw [nI_1]; exact sidx hLL hi (by decide)) dL_law_1683 ?_
  refine zr_aload_3 hO dL_law_1684 ?_
  rw [st3_A]
  rcases hR : cP_lk A (G.2.2.2.2.2 (ix (nI i + 1))) (cF_wt A 4 (G.2.2.2.2.2 (ix (nI i + 1)))) with q9 | E9
  · rw [hR] at ag
    obtain ⟨g1, g2, g3⟩ := ag
    refine zV_pc (pc' := 1685) rfl ?_
    refine z_callSH (As := [.ref x, .int (G.2.2.2.2.2 (ix (nI i + 1))), .ref w]) hO hRm hL (by omega) (by decide) rfl (e_L_blocked (d := D - 1) htr hX hA hw (fun E h => by rw [hR] at h; cases h) (by omega)) zl_L_210 zt_L_blocked zc_L_blocked rfl zn_L zd_L_blocked (Nat.le_of_ble_eq_true rfl) dL_law_1685 (by omega) (by omega) (fun E z ly9 τ9 σ9 h => ?_) (fun v z ly9 τ9 σ9 h => ?_)
    · obtain ⟨h1, rfl, h4⟩ := h
      rw [hR] at h4
      exact absurd h4.1 (by simp)
    · obtain ⟨h1, rfl, h4⟩ := h
      rw [hR] at h4
      obtain ⟨h5, rfl, rfl⟩ := h4
      cases h5
      refine zV_S (S' := fun z => n ≤ z) (fun z9 e9 => by subst e9; exact h1) ?_
      rw [← st3_A]
      refine zV_pc (pc' := 1688) rfl ?_
      exact rest 0 _ _ _ g2 (fun _ => by rw [← g1]; exact zupL_at _ _ _ _) g3 hU
  · rw [hR] at ag
    obtain ⟨g0, g2, g3⟩ := ag
    refine zV_pc (pc' := 1685) rfl ?_
    refine z_callSH (As := [.ref x, .int (G.2.2.2.2.2 (ix (nI i + 1))), .ref w]) hO hRm hL (by omega) (by decide) rfl (e_L_blocked (d := D - 1) htr hX hA hw (fun E h => by rw [hR] at h; cases h; exact g0) (by omega)) zl_L_210 zt_L_blocked zc_L_blocked rfl zn_L zd_L_blocked (Nat.le_of_ble_eq_true rfl) dL_law_1685 (by omega) (by omega) (fun E z ly9 τ9 σ9 h => ?_) (fun v z ly9 τ9 σ9 h => ?_)
    · obtain ⟨h1, rfl, h4⟩ := h
      rw [hR] at h4
      exact absurd h4.1 (by simp)
    · obtain ⟨h1, rfl, h4⟩ := h
      rw [hR] at h4
      obtain ⟨h5, rfl, rfl⟩ := h4
      cases h5
      refine zV_S (S' := fun z => n ≤ z) (fun z9 e9 => by subst e9; exact h1) ?_
      rw [← st3_A]
      refine zV_pc (pc' := 1688) rfl ?_
      exact rest _ _ _ _ g2 (fun h0 => absurd h0 (by simp only [LX, List.mem_cons, List.not_mem_nil, or_false] at g0; subst g0; decide)) g3 hU
set_option maxRecDepth 100000 in
set_option maxHeartbeats 1000000 in
theorem tu_number {G : zGm} {X : zCx} {l : Launch} {D x w n j i nn K : Nat} {ly : zLy} {τ : zTu} {σ A B M : zSg} (H : zLw G X l D ly x w n) (hn : zHead G X ly σ x w n j (i + 4)) (hQ : zQR nn K A M) (hU : zU B) (hK : K + 160 * (j + 1) + 240 ≤ 190000) (hi : i + 4 ≤ G.2.2.2.2.1) : zV G X 9 (300 * (j + 1)) (2500 * (j + 1)) (fun z => n ≤ z) ly τ (st3 σ x A B M) 1733 [some (.ref G.2.2.2.1), some (.ref x), some (.ref (x + 191)), some (.ref w), some (.int (nI i)), none, none, none, none] [] := by
  obtain ⟨⟨hO, hRm, hL, hD, htr⟩, ⟨hX, hA, hB, hM, hw⟩, ⟨hxw, hwn⟩, hz, hLL⟩ := id H
  have hQ0 := zQR_0 hQ 0
  have hW := zI_W hQ.1
  have ag := c_number hQ (G.2.2.2.2.2 (ix (nI i + 1)))
  obtain ⟨P, eP⟩ : ∃ P, P = (mP_number M (G.2.2.2.2.2 (ix (nI i + 1)))) := ⟨_, rfl⟩
  rw [← eP] at ag
  have rest : ∀ (cv : Int32) (τ2 : zTu) (A2 B2 : zSg), P.1 0 0 = cv → (cv = 0 → τ2 w 0 = P.2.toInt64) → (∃ n', zQR n' K A2 P.1) → zU B2 → zV G X 9 (300 * (j + 1) - 1) (2500 * (j + 1) - 6) (fun z => n ≤ z) ly τ2 (st3 σ x A2 B2 M) 1744 [some (.ref G.2.2.2.1), some (.ref x), some (.ref (x + 191)), some (.ref w), some (.int (nI i)), none, none, none, none] [.int cv] := by
    intro cv τ2 A2 B2 hcv hval hq2 hu2
    obtain ⟨n', hq2⟩ := hq2
    refine zr_istore_5 hO dL_law_1744 (by decide) rfl ?_
    refine zr_aload_2 hO dL_law_1746 ?_
    refine zr_aload_0 hO dL_law_1747 ?_
    refine zr_iload_4 hO dL_law_1748 ?_
    refine zr_iconst (v := 1) hO dL_law_1750 (by decide) ?_
    refine zr_iadd hO dL_law_1751 ?_
    refine zV_pc (pc' := 1752) rfl ?_
    refine zr_sld hO (by rw [nI_1]; exact sidx hLL hi (by decide)) dL_law_1752 ?_
    rw [st3_M]
    refine zV_pc (pc' := 1753) rfl ?_
    refine zr_V1 (D := D) hO hRm hL (by omega) (by decide) (c := 7) (by decide) (zM_0 hM) rfl rfl (e_X7_number (d := D - 1) htr hM (by omega) hW) zl_L_215 zi_X7_number zs_X7_number zc_X7_number zn_X7 zd_X7_number (Nat.le_of_ble_eq_true rfl) dL_law_1753 (by omega) (by omega) ?_
    rw [← eP]
    rw [← st3_M]
    refine zV_pc (pc' := 1756) rfl ?_
    refine zr_istore_6 hO dL_law_1756 (by decide) rfl ?_
    refine zr_aload_2 hO dL_law_1758 ?_
    rw [st3_M]
    refine zV_pc (pc' := 1759) rfl ?_
    refine zr_V0 (D := D) hO hRm hL (by omega) (by decide) (c := 7) (by decide) (zM_0 hM) rfl rfl (e_X7_thrown (d := D - 1) htr hM (by omega)) zl_L_118 zi_X7_thrown zs_X7_thrown zc_X7_thrown zn_X7 zd_X7_thrown (Nat.le_of_ble_eq_true rfl) dL_law_1759 (by omega) (by omega) ?_
    rw [← st3_M]
    refine zV_pc (pc' := 1762) rfl ?_
    refine zr_iload_5 hO dL_law_1762 ?_
    refine zr_icmp_eq (tgt := 1769) hO dL_law_1764 (by decide) (fun c9 => ?_) (fun c9 => absurd hcv c9)
    refine zr_iload_5 hO dL_law_1769 ?_
    have fin : ∀ bc bs, 300 * j ≤ bc → 2500 * j ≤ bs → zV G X 9 bc bs (fun z => n ≤ z) ly τ2 (st3 σ x A2 B2 P.1) 1786 [some (.ref G.2.2.2.1), some (.ref x), some (.ref (x + 191)), some (.ref w), some (.int (nI i)), some (.int cv), some (.int P.2), none, none] [] := by
      intro bc bs g1 g2
      refine zr_goto (tgt := 2173) hO dL_law_1786 (by decide) ?_
      exact t_end H hn hq2 hu2 (by omega) g1 g2
    refine zr_if_ne (tgt := 1786) hO dL_law_1771 (by decide) (fun c9 => fin _ _ (by omega) (by omega)) (fun c8 => ?_)
    refine zr_aload_3 hO dL_law_1774 ?_
    refine zr_iconst (v := 0) hO dL_law_1775 (by decide) ?_
    refine zr_lald hO hw (zin_i ⟨by decide, by decide⟩) dL_law_1776 ?_
    refine zV_pc (pc' := 1777) rfl ?_
    refine zr_iload_6 hO dL_law_1777 ?_
    refine zr_i2l hO dL_law_1779 ?_
    refine zV_pc (pc' := 1780) rfl ?_
    refine zr_lcmp_eq (tgt := 1786) hO dL_law_1780 dL_law_1781 (by decide) (fun c7 => fin _ _ (by omega) (by omega)) (fun c7 => absurd (hval c8) c7)
  refine zr_aload_1 hO dL_law_1733 ?_
  refine zr_aload_0 hO dL_law_1734 ?_
  refine zr_iload_4 hO dL_law_1735 ?_
  refine zr_iconst (v := 1) hO dL_law_1737 (by decide) ?_
  refine zr_iadd hO dL_law_1738 ?_
  refine zV_pc (pc' := 1739) rfl ?_
  refine zr_sld hO (by rw [nI_1]; exact sidx hLL hi (by decide)) dL_law_1739 ?_
  refine zr_aload_3 hO dL_law_1740 ?_
  rw [st3_A]
  rcases hR : cP_lk A (G.2.2.2.2.2 (ix (nI i + 1))) (cF_number A (G.2.2.2.2.2 (ix (nI i + 1)))) with q9 | E9
  · rw [hR] at ag
    obtain ⟨g1, g2, g3⟩ := ag
    refine zV_pc (pc' := 1741) rfl ?_
    refine z_callSH (As := [.ref x, .int (G.2.2.2.2.2 (ix (nI i + 1))), .ref w]) hO hRm hL (by omega) (by decide) rfl (e_L_number (d := D - 1) htr hX hA hw (fun E h => by rw [hR] at h; cases h) (by omega)) zl_L_213 zt_L_number zc_L_number rfl zn_L zd_L_number (Nat.le_of_ble_eq_true rfl) dL_law_1741 (by omega) (by omega) (fun E z ly9 τ9 σ9 h => ?_) (fun v z ly9 τ9 σ9 h => ?_)
    · obtain ⟨h1, rfl, h4⟩ := h
      rw [hR] at h4
      exact absurd h4.1 (by simp)
    · obtain ⟨h1, rfl, h4⟩ := h
      rw [hR] at h4
      obtain ⟨h5, rfl, rfl⟩ := h4
      cases h5
      refine zV_S (S' := fun z => n ≤ z) (fun z9 e9 => by subst e9; exact h1) ?_
      rw [← st3_A]
      refine zV_pc (pc' := 1744) rfl ?_
      exact rest 0 _ _ _ g2 (fun _ => by rw [← g1]; exact zupL_at _ _ _ _) g3 hU
  · rw [hR] at ag
    obtain ⟨g0, g2, g3⟩ := ag
    refine zV_pc (pc' := 1741) rfl ?_
    refine z_callSH (As := [.ref x, .int (G.2.2.2.2.2 (ix (nI i + 1))), .ref w]) hO hRm hL (by omega) (by decide) rfl (e_L_number (d := D - 1) htr hX hA hw (fun E h => by rw [hR] at h; cases h; exact g0) (by omega)) zl_L_213 zt_L_number zc_L_number rfl zn_L zd_L_number (Nat.le_of_ble_eq_true rfl) dL_law_1741 (by omega) (by omega) (fun E z ly9 τ9 σ9 h => ?_) (fun v z ly9 τ9 σ9 h => ?_)
    · obtain ⟨h1, rfl, h4⟩ := h
      rw [hR] at h4
      exact absurd h4.1 (by simp)
    · obtain ⟨h1, rfl, h4⟩ := h
      rw [hR] at h4
      obtain ⟨h5, rfl, rfl⟩ := h4
      cases h5
      refine zV_S (S' := fun z => n ≤ z) (fun z9 e9 => by subst e9; exact h1) ?_
      rw [← st3_A]
      refine zV_pc (pc' := 1744) rfl ?_
      exact rest _ _ _ _ g2 (fun h0 => absurd h0 (by simp only [LX, List.mem_cons, List.not_mem_nil, or_false] at g0; subst g0; decide)) g3 hU
set_option maxRecDepth 100000 in
set_option maxHeartbeats 1000000 in
theorem tu_awaiting {G : zGm} {X : zCx} {l : Launch} {D x w n j i nn K : Nat} {ly : zLy} {τ : zTu} {σ A B M : zSg} (H : zLw G X l D ly x w n) (hn : zHead G X ly σ x w n j (i + 4)) (hQ : zQR nn K A M) (hU : zU B) (hK : K + 160 * (j + 1) + 240 ≤ 190000) (hi : i + 4 ≤ G.2.2.2.2.1) : zV G X 9 (300 * (j + 1)) (2500 * (j + 1)) (fun z => n ≤ z) ly τ (st3 σ x A B M) 1789 [some (.ref G.2.2.2.1), some (.ref x), some (.ref (x + 191)), some (.ref w), some (.int (nI i)), none, none, none, none] [] := by
  obtain ⟨⟨hO, hRm, hL, hD, htr⟩, ⟨hX, hA, hB, hM, hw⟩, ⟨hxw, hwn⟩, hz, hLL⟩ := id H
  have hQ0 := zQR_0 hQ 0
  have hW := zI_W hQ.1
  have ag := c_awaiting hQ (G.2.2.2.2.2 (ix (nI i + 1)))
  obtain ⟨P, eP⟩ : ∃ P, P = (mP_waits M 5 (G.2.2.2.2.2 (ix (nI i + 1)))) := ⟨_, rfl⟩
  rw [← eP] at ag
  have rest : ∀ (cv : Int32) (τ2 : zTu) (A2 B2 : zSg), P.1 0 0 = cv → (cv = 0 → τ2 w 0 = P.2.toInt64) → (∃ n', zQR n' K A2 P.1) → zU B2 → zV G X 9 (300 * (j + 1) - 1) (2500 * (j + 1) - 6) (fun z => n ≤ z) ly τ2 (st3 σ x A2 B2 M) 1800 [some (.ref G.2.2.2.1), some (.ref x), some (.ref (x + 191)), some (.ref w), some (.int (nI i)), none, none, none, none] [.int cv] := by
    intro cv τ2 A2 B2 hcv hval hq2 hu2
    obtain ⟨n', hq2⟩ := hq2
    refine zr_istore_5 hO dL_law_1800 (by decide) rfl ?_
    refine zr_aload_2 hO dL_law_1802 ?_
    refine zr_aload_0 hO dL_law_1803 ?_
    refine zr_iload_4 hO dL_law_1804 ?_
    refine zr_iconst (v := 1) hO dL_law_1806 (by decide) ?_
    refine zr_iadd hO dL_law_1807 ?_
    refine zV_pc (pc' := 1808) rfl ?_
    refine zr_sld hO (by rw [nI_1]; exact sidx hLL hi (by decide)) dL_law_1808 ?_
    rw [st3_M]
    refine zV_pc (pc' := 1809) rfl ?_
    refine zr_V1 (D := D) hO hRm hL (by omega) (by decide) (c := 7) (by decide) (zM_0 hM) rfl rfl (e_X7_awaiting (d := D - 1) htr hM (by omega) hW) zl_L_218 zi_X7_awaiting zs_X7_awaiting zc_X7_awaiting zn_X7 zd_X7_awaiting (Nat.le_of_ble_eq_true rfl) dL_law_1809 (by omega) (by omega) ?_
    rw [← eP]
    rw [← st3_M]
    refine zV_pc (pc' := 1812) rfl ?_
    refine zr_istore_6 hO dL_law_1812 (by decide) rfl ?_
    refine zr_aload_2 hO dL_law_1814 ?_
    rw [st3_M]
    refine zV_pc (pc' := 1815) rfl ?_
    refine zr_V0 (D := D) hO hRm hL (by omega) (by decide) (c := 7) (by decide) (zM_0 hM) rfl rfl (e_X7_thrown (d := D - 1) htr hM (by omega)) zl_L_118 zi_X7_thrown zs_X7_thrown zc_X7_thrown zn_X7 zd_X7_thrown (Nat.le_of_ble_eq_true rfl) dL_law_1815 (by omega) (by omega) ?_
    rw [← st3_M]
    refine zV_pc (pc' := 1818) rfl ?_
    refine zr_iload_5 hO dL_law_1818 ?_
    refine zr_icmp_eq (tgt := 1825) hO dL_law_1820 (by decide) (fun c9 => ?_) (fun c9 => absurd hcv c9)
    refine zr_iload_5 hO dL_law_1825 ?_
    have fin : ∀ bc bs, 300 * j ≤ bc → 2500 * j ≤ bs → zV G X 9 bc bs (fun z => n ≤ z) ly τ2 (st3 σ x A2 B2 P.1) 1842 [some (.ref G.2.2.2.1), some (.ref x), some (.ref (x + 191)), some (.ref w), some (.int (nI i)), some (.int cv), some (.int P.2), none, none] [] := by
      intro bc bs g1 g2
      refine zr_goto (tgt := 2173) hO dL_law_1842 (by decide) ?_
      exact t_end H hn hq2 hu2 (by omega) g1 g2
    refine zr_if_ne (tgt := 1842) hO dL_law_1827 (by decide) (fun c9 => fin _ _ (by omega) (by omega)) (fun c8 => ?_)
    refine zr_aload_3 hO dL_law_1830 ?_
    refine zr_iconst (v := 0) hO dL_law_1831 (by decide) ?_
    refine zr_lald hO hw (zin_i ⟨by decide, by decide⟩) dL_law_1832 ?_
    refine zV_pc (pc' := 1833) rfl ?_
    refine zr_iload_6 hO dL_law_1833 ?_
    refine zr_i2l hO dL_law_1835 ?_
    refine zV_pc (pc' := 1836) rfl ?_
    refine zr_lcmp_eq (tgt := 1842) hO dL_law_1836 dL_law_1837 (by decide) (fun c7 => fin _ _ (by omega) (by omega)) (fun c7 => absurd (hval c8) c7)
  refine zr_aload_1 hO dL_law_1789 ?_
  refine zr_aload_0 hO dL_law_1790 ?_
  refine zr_iload_4 hO dL_law_1791 ?_
  refine zr_iconst (v := 1) hO dL_law_1793 (by decide) ?_
  refine zr_iadd hO dL_law_1794 ?_
  refine zV_pc (pc' := 1795) rfl ?_
  refine zr_sld hO (by rw [nI_1]; exact sidx hLL hi (by decide)) dL_law_1795 ?_
  refine zr_aload_3 hO dL_law_1796 ?_
  rw [st3_A]
  rcases hR : cP_lk A (G.2.2.2.2.2 (ix (nI i + 1))) (cF_wt A 5 (G.2.2.2.2.2 (ix (nI i + 1)))) with q9 | E9
  · rw [hR] at ag
    obtain ⟨g1, g2, g3⟩ := ag
    refine zV_pc (pc' := 1797) rfl ?_
    refine z_callSH (As := [.ref x, .int (G.2.2.2.2.2 (ix (nI i + 1))), .ref w]) hO hRm hL (by omega) (by decide) rfl (e_L_awaiting (d := D - 1) htr hX hA hw (fun E h => by rw [hR] at h; cases h) (by omega)) zl_L_216 zt_L_awaiting zc_L_awaiting rfl zn_L zd_L_awaiting (Nat.le_of_ble_eq_true rfl) dL_law_1797 (by omega) (by omega) (fun E z ly9 τ9 σ9 h => ?_) (fun v z ly9 τ9 σ9 h => ?_)
    · obtain ⟨h1, rfl, h4⟩ := h
      rw [hR] at h4
      exact absurd h4.1 (by simp)
    · obtain ⟨h1, rfl, h4⟩ := h
      rw [hR] at h4
      obtain ⟨h5, rfl, rfl⟩ := h4
      cases h5
      refine zV_S (S' := fun z => n ≤ z) (fun z9 e9 => by subst e9; exact h1) ?_
      rw [← st3_A]
      refine zV_pc (pc' := 1800) rfl ?_
      exact rest 0 _ _ _ g2 (fun _ => by rw [← g1]; exact zupL_at _ _ _ _) g3 hU
  · rw [hR] at ag
    obtain ⟨g0, g2, g3⟩ := ag
    refine zV_pc (pc' := 1797) rfl ?_
    refine z_callSH (As := [.ref x, .int (G.2.2.2.2.2 (ix (nI i + 1))), .ref w]) hO hRm hL (by omega) (by decide) rfl (e_L_awaiting (d := D - 1) htr hX hA hw (fun E h => by rw [hR] at h; cases h; exact g0) (by omega)) zl_L_216 zt_L_awaiting zc_L_awaiting rfl zn_L zd_L_awaiting (Nat.le_of_ble_eq_true rfl) dL_law_1797 (by omega) (by omega) (fun E z ly9 τ9 σ9 h => ?_) (fun v z ly9 τ9 σ9 h => ?_)
    · obtain ⟨h1, rfl, h4⟩ := h
      rw [hR] at h4
      exact absurd h4.1 (by simp)
    · obtain ⟨h1, rfl, h4⟩ := h
      rw [hR] at h4
      obtain ⟨h5, rfl, rfl⟩ := h4
      cases h5
      refine zV_S (S' := fun z => n ≤ z) (fun z9 e9 => by subst e9; exact h1) ?_
      rw [← st3_A]
      refine zV_pc (pc' := 1800) rfl ?_
      exact rest _ _ _ _ g2 (fun h0 => absurd h0 (by simp only [LX, List.mem_cons, List.not_mem_nil, or_false] at g0; subst g0; decide)) g3 hU
set_option maxRecDepth 100000 in
set_option maxHeartbeats 1000000 in
theorem tu_stuck {G : zGm} {X : zCx} {l : Launch} {D x w n j i nn K : Nat} {ly : zLy} {τ : zTu} {σ A B M : zSg} (H : zLw G X l D ly x w n) (hn : zHead G X ly σ x w n j (i + 4)) (hQ : zQR nn K A M) (hU : zU B) (hK : K + 160 * (j + 1) + 240 ≤ 190000) (hi : i + 4 ≤ G.2.2.2.2.1) : zV G X 9 (300 * (j + 1)) (2500 * (j + 1)) (fun z => n ≤ z) ly τ (st3 σ x A B M) 1845 [some (.ref G.2.2.2.1), some (.ref x), some (.ref (x + 191)), some (.ref w), some (.int (nI i)), none, none, none, none] [] := by
  obtain ⟨⟨hO, hRm, hL, hD, htr⟩, ⟨hX, hA, hB, hM, hw⟩, ⟨hxw, hwn⟩, hz, hLL⟩ := id H
  have hQ0 := zQR_0 hQ 0
  have hW := zI_W hQ.1
  refine zr_aload_1 hO dL_law_1845 ?_
  rw [st3_A]
  refine zr_V0 (D := D) hO hRm hL (by omega) (by decide) (c := 6) (by decide) hX rfl rfl (e_X6_stuck (d := D - 1) htr hX hA (by omega)) zl_L_219 zi_X6_stuck zs_X6_stuck zc_X6_stuck zn_X6 zd_X6_stuck (Nat.le_of_ble_eq_true rfl) dL_law_1846 (by omega) (by omega) ?_
  rw [← st3_A]
  refine zr_aload_2 hO dL_law_1849 ?_
  rw [st3_M]
  refine zV_pc (pc' := 1850) rfl ?_
  refine zr_V0 (D := D) hO hRm hL (by omega) (by decide) (c := 7) (by decide) (zM_0 hM) rfl rfl (e_X7_stuck (d := D - 1) htr hM (by omega) hW (zI_bl hQ.1)) zl_L_222 zi_X7_stuck zs_X7_stuck zc_X7_stuck zn_X7 zd_X7_stuck (Nat.le_of_ble_eq_true rfl) dL_law_1850 (by omega) (by omega) ?_
  rw [← st3_M]
  refine zV_pc (pc' := 1853) rfl ?_
  refine zr_icmp_eq (tgt := 2173) hO dL_law_1853 (by decide) (fun c9 => t_end H hn hQ0 hU (by omega) (by omega) (by omega)) (fun c9 => absurd (stuck_eq hQ0.1) c9)
set_option maxRecDepth 100000 in
set_option maxHeartbeats 1000000 in
theorem tu_load {G : zGm} {X : zCx} {l : Launch} {D x w n j i nn K : Nat} {ly : zLy} {τ : zTu} {σ A B M : zSg} (H : zLw G X l D ly x w n) (hn : zHead G X ly σ x w n j (i + 4)) (hQ : zQR nn K A M) (hU : zU B) (hK : K + 160 * (j + 1) + 240 ≤ 190000) (hi : i + 4 ≤ G.2.2.2.2.1) : zV G X 9 (300 * (j + 1)) (2500 * (j + 1)) (fun z => n ≤ z) ly τ (st3 σ x A B M) 1858 [some (.ref G.2.2.2.1), some (.ref x), some (.ref (x + 191)), some (.ref w), some (.int (nI i)), none, none, none, none] [] := by
  obtain ⟨⟨hO, hRm, hL, hD, htr⟩, ⟨hX, hA, hB, hM, hw⟩, ⟨hxw, hwn⟩, hz, hLL⟩ := id H
  have hQ0 := zQR_0 hQ 0
  have hW := zI_W hQ.1
  refine zr_aload_1 hO dL_law_1858 ?_
  rw [st3_A]
  refine zr_V0 (D := D) hO hRm hL (by omega) (by decide) (c := 6) (by decide) hX rfl rfl (e_X6_load (d := D - 1) htr hX hA (by omega)) zl_L_223 zi_X6_load zs_X6_load zc_X6_load zn_X6 zd_X6_load (Nat.le_of_ble_eq_true rfl) dL_law_1859 (by omega) (by omega) ?_
  rw [← st3_A, load_eq hQ0]
  refine zV_pc (pc' := 1862) rfl ?_
  refine zr_dstore_5 hO dL_law_1862 (by decide) rfl ?_
  refine zr_aload_2 hO dL_law_1864 ?_
  rw [st3_M]
  refine zV_pc (pc' := 1865) rfl ?_
  refine zr_V0 (D := D) hO hRm hL (by omega) (by decide) (c := 7) (by decide) (zM_0 hM) rfl rfl (e_X7_load (d := D - 1) htr hM) zl_L_227 zi_X7_load zs_X7_load zc_X7_load zn_X7 zd_X7_load (Nat.le_of_ble_eq_true rfl) dL_law_1865 (by omega) (by omega) ?_
  rw [← st3_M]
  refine zV_pc (pc' := 1868) rfl ?_
  generalize mF_load (zup M 0 0 0) = v
  refine zr_dstore_7 hO dL_law_1868 (by decide) rfl ?_
  have fin : zV G X 9 (300 * (j + 1)) (2500 * (j + 1)) (fun z => n ≤ z) ly τ (st3 σ x A B (zup M 0 0 0)) 1896 [some (.ref G.2.2.2.1), some (.ref x), some (.ref (x + 191)), some (.ref w), some (.int (nI i)), some (.double v), none, some (.double v), none] [] := by
    refine zr_goto (tgt := 2173) hO dL_law_1896 (by decide) ?_
    exact t_end H hn hQ0 hU (by omega) (by omega) (by omega)
  refine zV_pc (pc' := 1870) rfl ?_
  refine zr_dload_5 hO dL_law_1870 ?_
  refine zr_dload_7 hO dL_law_1872 ?_
  refine zr_dcmp hO dL_law_1874 ?_
  generalize hc : Op.cmpValue (FP.dcmp v v) CmpOp.l = cv
  refine zr_if_eq (tgt := 1896) hO dL_law_1875 (by decide) (fun _ => fin) (fun c9 => ?_)
  refine zr_dload_5 hO dL_law_1878 ?_
  refine zr_dload_5 hO dL_law_1880 ?_
  refine zr_dcmp hO dL_law_1882 ?_
  rw [hc]
  refine zr_if_eq (tgt := 1894) hO dL_law_1883 (by decide) (fun c8 => absurd c8 c9) (fun _ => ?_)
  refine zr_dload_7 hO dL_law_1886 ?_
  refine zr_dload_7 hO dL_law_1888 ?_
  refine zr_dcmp hO dL_law_1890 ?_
  rw [hc]
  refine zr_if_ne (tgt := 1896) hO dL_law_1891 (by decide) (fun _ => fin) (fun c8 => absurd c8 c9)
set_option maxRecDepth 100000 in
set_option maxHeartbeats 1000000 in
theorem tu_doneIn {G : zGm} {X : zCx} {l : Launch} {D x w n j i nn K : Nat} {ly : zLy} {τ : zTu} {σ A B M : zSg} (H : zLw G X l D ly x w n) (hn : zHead G X ly σ x w n j (i + 4)) (hQ : zQR nn K A M) (hU : zU B) (hK : K + 160 * (j + 1) + 240 ≤ 190000) (hi : i + 4 ≤ G.2.2.2.2.1) : zV G X 9 (300 * (j + 1)) (2500 * (j + 1)) (fun z => n ≤ z) ly τ (st3 σ x A B M) 1899 [some (.ref G.2.2.2.1), some (.ref x), some (.ref (x + 191)), some (.ref w), some (.int (nI i)), none, none, none, none] [] := by
  obtain ⟨⟨hO, hRm, hL, hD, htr⟩, ⟨hX, hA, hB, hM, hw⟩, ⟨hxw, hwn⟩, hz, hLL⟩ := id H
  have hQ0 := zQR_0 hQ 0
  have hW := zI_W hQ.1
  obtain ⟨P, eP, ag⟩ := c_doneIn (f := 17) hQ hU (by omega) (by decide) (G.2.2.2.2.2 (ix (nI i + 1))) (G.2.2.2.2.2 (ix (nI i + 2)))
  have rest : ∀ (cv : Int32) (τ2 : zTu) (A2 B2 : zSg), P.1 0 0 = cv → (cv = 0 → τ2 w 0 = P.2.toInt64) → (∃ n', zQR n' K A2 P.1) → zU B2 → zV G X 9 (300 * (j + 1) - 1) (2500 * (j + 1) - 6) (fun z => n ≤ z) ly τ2 (st3 σ x A2 B2 M) 1916 [some (.ref G.2.2.2.1), some (.ref x), some (.ref (x + 191)), some (.ref w), some (.int (nI i)), none, none, none, none] [.int cv] := by
    intro cv τ2 A2 B2 hcv hval hq2 hu2
    obtain ⟨n', hq2⟩ := hq2
    refine zr_istore_5 hO dL_law_1916 (by decide) rfl ?_
    refine zr_aload_2 hO dL_law_1918 ?_
    refine zr_aload_0 hO dL_law_1919 ?_
    refine zr_iload_4 hO dL_law_1920 ?_
    refine zr_iconst (v := 1) hO dL_law_1922 (by decide) ?_
    refine zr_iadd hO dL_law_1923 ?_
    refine zV_pc (pc' := 1924) rfl ?_
    refine zr_sld hO (by rw [nI_1]; exact sidx hLL hi (by decide)) dL_law_1924 ?_
    refine zr_aload_0 hO dL_law_1925 ?_
    refine zr_iload_4 hO dL_law_1926 ?_
    refine zr_iconst (v := 2) hO dL_law_1928 (by decide) ?_
    refine zr_iadd hO dL_law_1929 ?_
    refine zV_pc (pc' := 1930) rfl ?_
    refine zr_sld hO (by rw [nI_2]; exact sidx hLL hi (by decide)) dL_law_1930 ?_
    rw [st3_M]
    refine zV_pc (pc' := 1931) rfl ?_
    refine zr_V2 (D := D) hO hRm hL (by omega) (by decide) (c := 7) (by decide) (zM_0 hM) rfl rfl (e_X7_doneIn (d := D - 1) htr hM (by omega) hW (by omega) hz eP) zl_L_230 zi_X7_doneIn zs_X7_doneIn zc_X7_doneIn zn_X7 zd_X7_doneIn (Nat.le_of_ble_eq_true rfl) dL_law_1931 (by omega) (by omega) ?_
    rw [← st3_M]
    refine zV_pc (pc' := 1934) rfl ?_
    refine zr_istore_6 hO dL_law_1934 (by decide) rfl ?_
    refine zr_aload_2 hO dL_law_1936 ?_
    rw [st3_M]
    refine zV_pc (pc' := 1937) rfl ?_
    refine zr_V0 (D := D) hO hRm hL (by omega) (by decide) (c := 7) (by decide) (zM_0 hM) rfl rfl (e_X7_thrown (d := D - 1) htr hM (by omega)) zl_L_118 zi_X7_thrown zs_X7_thrown zc_X7_thrown zn_X7 zd_X7_thrown (Nat.le_of_ble_eq_true rfl) dL_law_1937 (by omega) (by omega) ?_
    rw [← st3_M]
    refine zV_pc (pc' := 1940) rfl ?_
    refine zr_iload_5 hO dL_law_1940 ?_
    refine zr_icmp_eq (tgt := 1947) hO dL_law_1942 (by decide) (fun c9 => ?_) (fun c9 => absurd hcv c9)
    refine zr_iload_5 hO dL_law_1947 ?_
    have fin : ∀ bc bs, 300 * j ≤ bc → 2500 * j ≤ bs → zV G X 9 bc bs (fun z => n ≤ z) ly τ2 (st3 σ x A2 B2 P.1) 1964 [some (.ref G.2.2.2.1), some (.ref x), some (.ref (x + 191)), some (.ref w), some (.int (nI i)), some (.int cv), some (.int P.2), none, none] [] := by
      intro bc bs g1 g2
      refine zr_goto (tgt := 2173) hO dL_law_1964 (by decide) ?_
      exact t_end H hn hq2 hu2 (by omega) g1 g2
    refine zr_if_ne (tgt := 1964) hO dL_law_1949 (by decide) (fun c9 => fin _ _ (by omega) (by omega)) (fun c8 => ?_)
    refine zr_aload_3 hO dL_law_1952 ?_
    refine zr_iconst (v := 0) hO dL_law_1953 (by decide) ?_
    refine zr_lald hO hw (zin_i ⟨by decide, by decide⟩) dL_law_1954 ?_
    refine zV_pc (pc' := 1955) rfl ?_
    refine zr_iload_6 hO dL_law_1955 ?_
    refine zr_i2l hO dL_law_1957 ?_
    refine zV_pc (pc' := 1958) rfl ?_
    refine zr_lcmp_eq (tgt := 1964) hO dL_law_1958 dL_law_1959 (by decide) (fun c7 => fin _ _ (by omega) (by omega)) (fun c7 => absurd (hval c8) c7)
  refine zr_aload_1 hO dL_law_1899 ?_
  refine zr_aload_0 hO dL_law_1900 ?_
  refine zr_iload_4 hO dL_law_1901 ?_
  refine zr_iconst (v := 1) hO dL_law_1903 (by decide) ?_
  refine zr_iadd hO dL_law_1904 ?_
  refine zV_pc (pc' := 1905) rfl ?_
  refine zr_sld hO (by rw [nI_1]; exact sidx hLL hi (by decide)) dL_law_1905 ?_
  refine zr_aload_0 hO dL_law_1906 ?_
  refine zr_iload_4 hO dL_law_1907 ?_
  refine zr_iconst (v := 2) hO dL_law_1909 (by decide) ?_
  refine zr_iadd hO dL_law_1910 ?_
  refine zV_pc (pc' := 1911) rfl ?_
  refine zr_sld hO (by rw [nI_2]; exact sidx hLL hi (by decide)) dL_law_1911 ?_
  refine zr_aload_3 hO dL_law_1912 ?_
  rw [st3_B]
  rcases hR : cP_doneIn A B (G.2.2.2.2.2 (ix (nI i + 1))) (G.2.2.2.2.2 (ix (nI i + 2))) with q9 | E9
  · rw [hR] at ag
    obtain ⟨g1, g2, g3, g4⟩ := ag
    refine zV_pc (pc' := 1913) rfl ?_
    refine z_callSH (As := [.ref x, .int (G.2.2.2.2.2 (ix (nI i + 1))), .int (G.2.2.2.2.2 (ix (nI i + 2))), .ref w]) hO hRm hL (by omega) (by decide) rfl (e_L_doneIn (d := D - 1) htr hX hA hB (by omega) hw (fun E h => by rw [hR] at h; cases h) (by omega)) zl_L_228 zt_L_doneIn zc_L_doneIn rfl zn_L zd_L_doneIn (Nat.le_of_ble_eq_true rfl) dL_law_1913 (by omega) (by omega) (fun E z ly9 τ9 σ9 h => ?_) (fun v z ly9 τ9 σ9 h => ?_)
    · obtain ⟨h1, rfl, h4⟩ := h
      rw [hR] at h4
      exact absurd h4.1 (by simp)
    · obtain ⟨h1, rfl, h4⟩ := h
      rw [hR] at h4
      obtain ⟨h5, rfl, rfl⟩ := h4
      cases h5
      refine zV_S (S' := fun z => n ≤ z) (fun z9 e9 => by subst e9; exact h1) ?_
      rw [← st3_B]
      refine zV_pc (pc' := 1916) rfl ?_
      exact rest 0 _ _ _ g2 (fun _ => by rw [← g1]; exact zupL_at _ _ _ _) g3 g4
  · rw [hR] at ag
    obtain ⟨g0, g2, g3⟩ := ag
    refine zV_pc (pc' := 1913) rfl ?_
    refine z_callSH (As := [.ref x, .int (G.2.2.2.2.2 (ix (nI i + 1))), .int (G.2.2.2.2.2 (ix (nI i + 2))), .ref w]) hO hRm hL (by omega) (by decide) rfl (e_L_doneIn (d := D - 1) htr hX hA hB (by omega) hw (fun E h => by rw [hR] at h; cases h; exact g0) (by omega)) zl_L_228 zt_L_doneIn zc_L_doneIn rfl zn_L zd_L_doneIn (Nat.le_of_ble_eq_true rfl) dL_law_1913 (by omega) (by omega) (fun E z ly9 τ9 σ9 h => ?_) (fun v z ly9 τ9 σ9 h => ?_)
    · obtain ⟨h1, rfl, h4⟩ := h
      rw [hR] at h4
      exact absurd h4.1 (by simp)
    · obtain ⟨h1, rfl, h4⟩ := h
      rw [hR] at h4
      obtain ⟨h5, rfl, rfl⟩ := h4
      cases h5
      refine zV_S (S' := fun z => n ≤ z) (fun z9 e9 => by subst e9; exact h1) ?_
      rw [← st3_B]
      refine zV_pc (pc' := 1916) rfl ?_
      exact rest _ _ _ _ g2 (fun h0 => absurd h0 (by simp only [LXA, List.mem_cons, List.not_mem_nil, or_false] at g0; rcases g0 with rfl | rfl <;> decide)) g3 hU
set_option maxRecDepth 100000 in
set_option maxHeartbeats 1000000 in
theorem tu_doneWith {G : zGm} {X : zCx} {l : Launch} {D x w n j i nn K : Nat} {ly : zLy} {τ : zTu} {σ A B M : zSg} (H : zLw G X l D ly x w n) (hn : zHead G X ly σ x w n j (i + 4)) (hQ : zQR nn K A M) (hU : zU B) (hK : K + 160 * (j + 1) + 240 ≤ 190000) (hi : i + 4 ≤ G.2.2.2.2.1) : zV G X 9 (300 * (j + 1)) (2500 * (j + 1)) (fun z => n ≤ z) ly τ (st3 σ x A B M) 1967 [some (.ref G.2.2.2.1), some (.ref x), some (.ref (x + 191)), some (.ref w), some (.int (nI i)), none, none, none, none] [] := by
  obtain ⟨⟨hO, hRm, hL, hD, htr⟩, ⟨hX, hA, hB, hM, hw⟩, ⟨hxw, hwn⟩, hz, hLL⟩ := id H
  have hQ0 := zQR_0 hQ 0
  have hW := zI_W hQ.1
  obtain ⟨P, eP, ag⟩ := c_doneWith (f := 17) hQ hU (by omega) (by decide) (G.2.2.2.2.2 (ix (nI i + 1))) (G.2.2.2.2.2 (ix (nI i + 2))) (G.2.2.2.2.2 (ix (nI i + 3)))
  have rest : ∀ (cv : Int32) (τ2 : zTu) (A2 B2 : zSg), P.1 0 0 = cv → (cv = 0 → τ2 w 0 = P.2.toInt64) → (∃ n', zQR n' K A2 P.1) → zU B2 → zV G X 9 (300 * (j + 1) - 1) (2500 * (j + 1) - 6) (fun z => n ≤ z) ly τ2 (st3 σ x A2 B2 M) 1990 [some (.ref G.2.2.2.1), some (.ref x), some (.ref (x + 191)), some (.ref w), some (.int (nI i)), none, none, none, none] [.int cv] := by
    intro cv τ2 A2 B2 hcv hval hq2 hu2
    obtain ⟨n', hq2⟩ := hq2
    refine zr_istore_5 hO dL_law_1990 (by decide) rfl ?_
    refine zr_aload_2 hO dL_law_1992 ?_
    refine zr_aload_0 hO dL_law_1993 ?_
    refine zr_iload_4 hO dL_law_1994 ?_
    refine zr_iconst (v := 1) hO dL_law_1996 (by decide) ?_
    refine zr_iadd hO dL_law_1997 ?_
    refine zV_pc (pc' := 1998) rfl ?_
    refine zr_sld hO (by rw [nI_1]; exact sidx hLL hi (by decide)) dL_law_1998 ?_
    refine zr_aload_0 hO dL_law_1999 ?_
    refine zr_iload_4 hO dL_law_2000 ?_
    refine zr_iconst (v := 2) hO dL_law_2002 (by decide) ?_
    refine zr_iadd hO dL_law_2003 ?_
    refine zV_pc (pc' := 2004) rfl ?_
    refine zr_sld hO (by rw [nI_2]; exact sidx hLL hi (by decide)) dL_law_2004 ?_
    refine zr_aload_0 hO dL_law_2005 ?_
    refine zr_iload_4 hO dL_law_2006 ?_
    refine zr_iconst (v := 3) hO dL_law_2008 (by decide) ?_
    refine zr_iadd hO dL_law_2009 ?_
    refine zV_pc (pc' := 2010) rfl ?_
    refine zr_sld hO (by rw [nI_3]; exact sidx hLL hi (by decide)) dL_law_2010 ?_
    rw [st3_M]
    refine zV_pc (pc' := 2011) rfl ?_
    refine zr_V3 (D := D) hO hRm hL (by omega) (by decide) (c := 7) (by decide) (zM_0 hM) rfl rfl (e_X7_doneWith (d := D - 1) htr hM (by omega) hW (by omega) hz eP) zl_L_233 zi_X7_doneWith zs_X7_doneWith zc_X7_doneWith zn_X7 zd_X7_doneWith (Nat.le_of_ble_eq_true rfl) dL_law_2011 (by omega) (by omega) ?_
    rw [← st3_M]
    refine zV_pc (pc' := 2014) rfl ?_
    refine zr_istore_6 hO dL_law_2014 (by decide) rfl ?_
    refine zr_aload_2 hO dL_law_2016 ?_
    rw [st3_M]
    refine zV_pc (pc' := 2017) rfl ?_
    refine zr_V0 (D := D) hO hRm hL (by omega) (by decide) (c := 7) (by decide) (zM_0 hM) rfl rfl (e_X7_thrown (d := D - 1) htr hM (by omega)) zl_L_118 zi_X7_thrown zs_X7_thrown zc_X7_thrown zn_X7 zd_X7_thrown (Nat.le_of_ble_eq_true rfl) dL_law_2017 (by omega) (by omega) ?_
    rw [← st3_M]
    refine zV_pc (pc' := 2020) rfl ?_
    refine zr_iload_5 hO dL_law_2020 ?_
    refine zr_icmp_eq (tgt := 2027) hO dL_law_2022 (by decide) (fun c9 => ?_) (fun c9 => absurd hcv c9)
    refine zr_iload_5 hO dL_law_2027 ?_
    have fin : ∀ bc bs, 300 * j ≤ bc → 2500 * j ≤ bs → zV G X 9 bc bs (fun z => n ≤ z) ly τ2 (st3 σ x A2 B2 P.1) 2044 [some (.ref G.2.2.2.1), some (.ref x), some (.ref (x + 191)), some (.ref w), some (.int (nI i)), some (.int cv), some (.int P.2), none, none] [] := by
      intro bc bs g1 g2
      refine zr_goto (tgt := 2173) hO dL_law_2044 (by decide) ?_
      exact t_end H hn hq2 hu2 (by omega) g1 g2
    refine zr_if_ne (tgt := 2044) hO dL_law_2029 (by decide) (fun c9 => fin _ _ (by omega) (by omega)) (fun c8 => ?_)
    refine zr_aload_3 hO dL_law_2032 ?_
    refine zr_iconst (v := 0) hO dL_law_2033 (by decide) ?_
    refine zr_lald hO hw (zin_i ⟨by decide, by decide⟩) dL_law_2034 ?_
    refine zV_pc (pc' := 2035) rfl ?_
    refine zr_iload_6 hO dL_law_2035 ?_
    refine zr_i2l hO dL_law_2037 ?_
    refine zV_pc (pc' := 2038) rfl ?_
    refine zr_lcmp_eq (tgt := 2044) hO dL_law_2038 dL_law_2039 (by decide) (fun c7 => fin _ _ (by omega) (by omega)) (fun c7 => absurd (hval c8) c7)
  refine zr_aload_1 hO dL_law_1967 ?_
  refine zr_aload_0 hO dL_law_1968 ?_
  refine zr_iload_4 hO dL_law_1969 ?_
  refine zr_iconst (v := 1) hO dL_law_1971 (by decide) ?_
  refine zr_iadd hO dL_law_1972 ?_
  refine zV_pc (pc' := 1973) rfl ?_
  refine zr_sld hO (by rw [nI_1]; exact sidx hLL hi (by decide)) dL_law_1973 ?_
  refine zr_aload_0 hO dL_law_1974 ?_
  refine zr_iload_4 hO dL_law_1975 ?_
  refine zr_iconst (v := 2) hO dL_law_1977 (by decide) ?_
  refine zr_iadd hO dL_law_1978 ?_
  refine zV_pc (pc' := 1979) rfl ?_
  refine zr_sld hO (by rw [nI_2]; exact sidx hLL hi (by decide)) dL_law_1979 ?_
  refine zr_aload_0 hO dL_law_1980 ?_
  refine zr_iload_4 hO dL_law_1981 ?_
  refine zr_iconst (v := 3) hO dL_law_1983 (by decide) ?_
  refine zr_iadd hO dL_law_1984 ?_
  refine zV_pc (pc' := 1985) rfl ?_
  refine zr_sld hO (by rw [nI_3]; exact sidx hLL hi (by decide)) dL_law_1985 ?_
  refine zr_aload_3 hO dL_law_1986 ?_
  rw [st3_B]
  rcases hR : cP_doneWith A B (G.2.2.2.2.2 (ix (nI i + 1))) (G.2.2.2.2.2 (ix (nI i + 2))) (G.2.2.2.2.2 (ix (nI i + 3))) with q9 | E9
  · rw [hR] at ag
    obtain ⟨g1, g2, g3, g4⟩ := ag
    refine zV_pc (pc' := 1987) rfl ?_
    refine z_callSH (As := [.ref x, .int (G.2.2.2.2.2 (ix (nI i + 1))), .int (G.2.2.2.2.2 (ix (nI i + 2))), .int (G.2.2.2.2.2 (ix (nI i + 3))), .ref w]) hO hRm hL (by omega) (by decide) rfl (e_L_doneWith (d := D - 1) htr hX hA hB (by omega) hw (fun E h => by rw [hR] at h; cases h) (by omega)) zl_L_231 zt_L_doneWith zc_L_doneWith rfl zn_L zd_L_doneWith (Nat.le_of_ble_eq_true rfl) dL_law_1987 (by omega) (by omega) (fun E z ly9 τ9 σ9 h => ?_) (fun v z ly9 τ9 σ9 h => ?_)
    · obtain ⟨h1, rfl, h4⟩ := h
      rw [hR] at h4
      exact absurd h4.1 (by simp)
    · obtain ⟨h1, rfl, h4⟩ := h
      rw [hR] at h4
      obtain ⟨h5, rfl, rfl⟩ := h4
      cases h5
      refine zV_S (S' := fun z => n ≤ z) (fun z9 e9 => by subst e9; exact h1) ?_
      rw [← st3_B]
      refine zV_pc (pc' := 1990) rfl ?_
      exact rest 0 _ _ _ g2 (fun _ => by rw [← g1]; exact zupL_at _ _ _ _) g3 g4
  · rw [hR] at ag
    obtain ⟨g0, g2, g3⟩ := ag
    refine zV_pc (pc' := 1987) rfl ?_
    refine z_callSH (As := [.ref x, .int (G.2.2.2.2.2 (ix (nI i + 1))), .int (G.2.2.2.2.2 (ix (nI i + 2))), .int (G.2.2.2.2.2 (ix (nI i + 3))), .ref w]) hO hRm hL (by omega) (by decide) rfl (e_L_doneWith (d := D - 1) htr hX hA hB (by omega) hw (fun E h => by rw [hR] at h; cases h; exact g0) (by omega)) zl_L_231 zt_L_doneWith zc_L_doneWith rfl zn_L zd_L_doneWith (Nat.le_of_ble_eq_true rfl) dL_law_1987 (by omega) (by omega) (fun E z ly9 τ9 σ9 h => ?_) (fun v z ly9 τ9 σ9 h => ?_)
    · obtain ⟨h1, rfl, h4⟩ := h
      rw [hR] at h4
      exact absurd h4.1 (by simp)
    · obtain ⟨h1, rfl, h4⟩ := h
      rw [hR] at h4
      obtain ⟨h5, rfl, rfl⟩ := h4
      cases h5
      refine zV_S (S' := fun z => n ≤ z) (fun z9 e9 => by subst e9; exact h1) ?_
      rw [← st3_B]
      refine zV_pc (pc' := 1990) rfl ?_
      exact rest _ _ _ _ g2 (fun h0 => absurd h0 (by simp only [LXA, List.mem_cons, List.not_mem_nil, or_false] at g0; rcases g0 with rfl | rfl <;> decide)) g3 hU
set_option maxRecDepth 100000 in
set_option maxHeartbeats 1000000 in
theorem tu_idleIn {G : zGm} {X : zCx} {l : Launch} {D x w n j i nn K : Nat} {ly : zLy} {τ : zTu} {σ A B M : zSg} (H : zLw G X l D ly x w n) (hn : zHead G X ly σ x w n j (i + 4)) (hQ : zQR nn K A M) (hU : zU B) (hK : K + 160 * (j + 1) + 240 ≤ 190000) (hi : i + 4 ≤ G.2.2.2.2.1) : zV G X 9 (300 * (j + 1)) (2500 * (j + 1)) (fun z => n ≤ z) ly τ (st3 σ x A B M) 2047 [some (.ref G.2.2.2.1), some (.ref x), some (.ref (x + 191)), some (.ref w), some (.int (nI i)), none, none, none, none] [] := by
  obtain ⟨⟨hO, hRm, hL, hD, htr⟩, ⟨hX, hA, hB, hM, hw⟩, ⟨hxw, hwn⟩, hz, hLL⟩ := id H
  have hQ0 := zQR_0 hQ 0
  have hW := zI_W hQ.1
  obtain ⟨P, eP, ag⟩ := c_idleIn (f := 17) hQ hU (by omega) (by decide) (G.2.2.2.2.2 (ix (nI i + 1)))
  have rest : ∀ (cv : Int32) (τ2 : zTu) (A2 B2 : zSg), P.1 0 0 = cv → (cv = 0 → τ2 w 0 = P.2.toInt64) → (∃ n', zQR n' K A2 P.1) → zU B2 → zV G X 9 (300 * (j + 1) - 1) (2500 * (j + 1) - 6) (fun z => n ≤ z) ly τ2 (st3 σ x A2 B2 M) 2058 [some (.ref G.2.2.2.1), some (.ref x), some (.ref (x + 191)), some (.ref w), some (.int (nI i)), none, none, none, none] [.int cv] := by
    intro cv τ2 A2 B2 hcv hval hq2 hu2
    obtain ⟨n', hq2⟩ := hq2
    refine zr_istore_5 hO dL_law_2058 (by decide) rfl ?_
    refine zr_aload_2 hO dL_law_2060 ?_
    refine zr_aload_0 hO dL_law_2061 ?_
    refine zr_iload_4 hO dL_law_2062 ?_
    refine zr_iconst (v := 1) hO dL_law_2064 (by decide) ?_
    refine zr_iadd hO dL_law_2065 ?_
    refine zV_pc (pc' := 2066) rfl ?_
    refine zr_sld hO (by rw [nI_1]; exact sidx hLL hi (by decide)) dL_law_2066 ?_
    rw [st3_M]
    refine zV_pc (pc' := 2067) rfl ?_
    refine zr_V1 (D := D) hO hRm hL (by omega) (by decide) (c := 7) (by decide) (zM_0 hM) rfl rfl (e_X7_idleIn (d := D - 1) htr hM (by omega) hW (by omega) hz eP) zl_L_236 zi_X7_idleIn zs_X7_idleIn zc_X7_idleIn zn_X7 zd_X7_idleIn (Nat.le_of_ble_eq_true rfl) dL_law_2067 (by omega) (by omega) ?_
    rw [← st3_M]
    refine zV_pc (pc' := 2070) rfl ?_
    refine zr_istore_6 hO dL_law_2070 (by decide) rfl ?_
    refine zr_aload_2 hO dL_law_2072 ?_
    rw [st3_M]
    refine zV_pc (pc' := 2073) rfl ?_
    refine zr_V0 (D := D) hO hRm hL (by omega) (by decide) (c := 7) (by decide) (zM_0 hM) rfl rfl (e_X7_thrown (d := D - 1) htr hM (by omega)) zl_L_118 zi_X7_thrown zs_X7_thrown zc_X7_thrown zn_X7 zd_X7_thrown (Nat.le_of_ble_eq_true rfl) dL_law_2073 (by omega) (by omega) ?_
    rw [← st3_M]
    refine zV_pc (pc' := 2076) rfl ?_
    refine zr_iload_5 hO dL_law_2076 ?_
    refine zr_icmp_eq (tgt := 2083) hO dL_law_2078 (by decide) (fun c9 => ?_) (fun c9 => absurd hcv c9)
    refine zr_iload_5 hO dL_law_2083 ?_
    have fin : ∀ bc bs, 300 * j ≤ bc → 2500 * j ≤ bs → zV G X 9 bc bs (fun z => n ≤ z) ly τ2 (st3 σ x A2 B2 P.1) 2100 [some (.ref G.2.2.2.1), some (.ref x), some (.ref (x + 191)), some (.ref w), some (.int (nI i)), some (.int cv), some (.int P.2), none, none] [] := by
      intro bc bs g1 g2
      refine zr_goto (tgt := 2173) hO dL_law_2100 (by decide) ?_
      exact t_end H hn hq2 hu2 (by omega) g1 g2
    refine zr_if_ne (tgt := 2100) hO dL_law_2085 (by decide) (fun c9 => fin _ _ (by omega) (by omega)) (fun c8 => ?_)
    refine zr_aload_3 hO dL_law_2088 ?_
    refine zr_iconst (v := 0) hO dL_law_2089 (by decide) ?_
    refine zr_lald hO hw (zin_i ⟨by decide, by decide⟩) dL_law_2090 ?_
    refine zV_pc (pc' := 2091) rfl ?_
    refine zr_iload_6 hO dL_law_2091 ?_
    refine zr_i2l hO dL_law_2093 ?_
    refine zV_pc (pc' := 2094) rfl ?_
    refine zr_lcmp_eq (tgt := 2100) hO dL_law_2094 dL_law_2095 (by decide) (fun c7 => fin _ _ (by omega) (by omega)) (fun c7 => absurd (hval c8) c7)
  refine zr_aload_1 hO dL_law_2047 ?_
  refine zr_aload_0 hO dL_law_2048 ?_
  refine zr_iload_4 hO dL_law_2049 ?_
  refine zr_iconst (v := 1) hO dL_law_2051 (by decide) ?_
  refine zr_iadd hO dL_law_2052 ?_
  refine zV_pc (pc' := 2053) rfl ?_
  refine zr_sld hO (by rw [nI_1]; exact sidx hLL hi (by decide)) dL_law_2053 ?_
  refine zr_aload_3 hO dL_law_2054 ?_
  rw [st3_B]
  rcases hR : cP_idleIn A B (G.2.2.2.2.2 (ix (nI i + 1))) with q9 | E9
  · rw [hR] at ag
    obtain ⟨g1, g2, g3, g4⟩ := ag
    refine zV_pc (pc' := 2055) rfl ?_
    refine z_callSH (As := [.ref x, .int (G.2.2.2.2.2 (ix (nI i + 1))), .ref w]) hO hRm hL (by omega) (by decide) rfl (e_L_idleIn (d := D - 1) htr hX hA hB (by omega) hw (fun E h => by rw [hR] at h; cases h) (by omega)) zl_L_234 zt_L_idleIn zc_L_idleIn rfl zn_L zd_L_idleIn (Nat.le_of_ble_eq_true rfl) dL_law_2055 (by omega) (by omega) (fun E z ly9 τ9 σ9 h => ?_) (fun v z ly9 τ9 σ9 h => ?_)
    · obtain ⟨h1, rfl, h4⟩ := h
      rw [hR] at h4
      exact absurd h4.1 (by simp)
    · obtain ⟨h1, rfl, h4⟩ := h
      rw [hR] at h4
      obtain ⟨h5, rfl, rfl⟩ := h4
      cases h5
      refine zV_S (S' := fun z => n ≤ z) (fun z9 e9 => by subst e9; exact h1) ?_
      rw [← st3_B]
      refine zV_pc (pc' := 2058) rfl ?_
      exact rest 0 _ _ _ g2 (fun _ => by rw [← g1]; exact zupL_at _ _ _ _) g3 g4
  · rw [hR] at ag
    obtain ⟨g0, g2, g3⟩ := ag
    refine zV_pc (pc' := 2055) rfl ?_
    refine z_callSH (As := [.ref x, .int (G.2.2.2.2.2 (ix (nI i + 1))), .ref w]) hO hRm hL (by omega) (by decide) rfl (e_L_idleIn (d := D - 1) htr hX hA hB (by omega) hw (fun E h => by rw [hR] at h; cases h; exact g0) (by omega)) zl_L_234 zt_L_idleIn zc_L_idleIn rfl zn_L zd_L_idleIn (Nat.le_of_ble_eq_true rfl) dL_law_2055 (by omega) (by omega) (fun E z ly9 τ9 σ9 h => ?_) (fun v z ly9 τ9 σ9 h => ?_)
    · obtain ⟨h1, rfl, h4⟩ := h
      rw [hR] at h4
      exact absurd h4.1 (by simp)
    · obtain ⟨h1, rfl, h4⟩ := h
      rw [hR] at h4
      obtain ⟨h5, rfl, rfl⟩ := h4
      cases h5
      refine zV_S (S' := fun z => n ≤ z) (fun z9 e9 => by subst e9; exact h1) ?_
      rw [← st3_B]
      refine zV_pc (pc' := 2058) rfl ?_
      exact rest _ _ _ _ g2 (fun h0 => absurd h0 (by simp only [LA, List.mem_cons, List.not_mem_nil, or_false] at g0; subst g0; decide)) g3 hU
set_option maxRecDepth 100000 in
set_option maxHeartbeats 1000000 in
theorem tu_stuckIn {G : zGm} {X : zCx} {l : Launch} {D x w n j i nn K : Nat} {ly : zLy} {τ : zTu} {σ A B M : zSg} (H : zLw G X l D ly x w n) (hn : zHead G X ly σ x w n j (i + 4)) (hQ : zQR nn K A M) (hU : zU B) (hK : K + 160 * (j + 1) + 240 ≤ 190000) (hi : i + 4 ≤ G.2.2.2.2.1) : zV G X 9 (300 * (j + 1)) (2500 * (j + 1)) (fun z => n ≤ z) ly τ (st3 σ x A B M) 2103 [some (.ref G.2.2.2.1), some (.ref x), some (.ref (x + 191)), some (.ref w), some (.int (nI i)), none, none, none, none] [] := by
  obtain ⟨⟨hO, hRm, hL, hD, htr⟩, ⟨hX, hA, hB, hM, hw⟩, ⟨hxw, hwn⟩, hz, hLL⟩ := id H
  have hQ0 := zQR_0 hQ 0
  have hW := zI_W hQ.1
  obtain ⟨P, eP, ag⟩ := c_stuckIn (f := 17) hQ hU (by omega) (by decide) (G.2.2.2.2.2 (ix (nI i + 1)))
  have rest : ∀ (cv : Int32) (τ2 : zTu) (A2 B2 : zSg), P.1 0 0 = cv → (cv = 0 → τ2 w 0 = P.2.toInt64) → (∃ n', zQR n' K A2 P.1) → zU B2 → zV G X 9 (300 * (j + 1) - 1) (2500 * (j + 1) - 6) (fun z => n ≤ z) ly τ2 (st3 σ x A2 B2 M) 2114 [some (.ref G.2.2.2.1), some (.ref x), some (.ref (x + 191)), some (.ref w), some (.int (nI i)), none, none, none, none] [.int cv] := by
    intro cv τ2 A2 B2 hcv hval hq2 hu2
    obtain ⟨n', hq2⟩ := hq2
    refine zr_istore_5 hO dL_law_2114 (by decide) rfl ?_
    refine zr_aload_2 hO dL_law_2116 ?_
    refine zr_aload_0 hO dL_law_2117 ?_
    refine zr_iload_4 hO dL_law_2118 ?_
    refine zr_iconst (v := 1) hO dL_law_2120 (by decide) ?_
    refine zr_iadd hO dL_law_2121 ?_
    refine zV_pc (pc' := 2122) rfl ?_
    refine zr_sld hO (by rw [nI_1]; exact sidx hLL hi (by decide)) dL_law_2122 ?_
    rw [st3_M]
    refine zV_pc (pc' := 2123) rfl ?_
    refine zr_V1 (D := D) hO hRm hL (by omega) (by decide) (c := 7) (by decide) (zM_0 hM) rfl rfl (e_X7_stuckIn (d := D - 1) htr hM (by omega) hW (by omega) hz eP) zl_L_239 zi_X7_stuckIn zs_X7_stuckIn zc_X7_stuckIn zn_X7 zd_X7_stuckIn (Nat.le_of_ble_eq_true rfl) dL_law_2123 (by omega) (by omega) ?_
    rw [← st3_M]
    refine zV_pc (pc' := 2126) rfl ?_
    refine zr_istore_6 hO dL_law_2126 (by decide) rfl ?_
    refine zr_aload_2 hO dL_law_2128 ?_
    rw [st3_M]
    refine zV_pc (pc' := 2129) rfl ?_
    refine zr_V0 (D := D) hO hRm hL (by omega) (by decide) (c := 7) (by decide) (zM_0 hM) rfl rfl (e_X7_thrown (d := D - 1) htr hM (by omega)) zl_L_118 zi_X7_thrown zs_X7_thrown zc_X7_thrown zn_X7 zd_X7_thrown (Nat.le_of_ble_eq_true rfl) dL_law_2129 (by omega) (by omega) ?_
    rw [← st3_M]
    refine zV_pc (pc' := 2132) rfl ?_
    refine zr_iload_5 hO dL_law_2132 ?_
    refine zr_icmp_eq (tgt := 2139) hO dL_law_2134 (by decide) (fun c9 => ?_) (fun c9 => absurd hcv c9)
    refine zr_iload_5 hO dL_law_2139 ?_
    have fin : ∀ bc bs, 300 * j ≤ bc → 2500 * j ≤ bs → zV G X 9 bc bs (fun z => n ≤ z) ly τ2 (st3 σ x A2 B2 P.1) 2156 [some (.ref G.2.2.2.1), some (.ref x), some (.ref (x + 191)), some (.ref w), some (.int (nI i)), some (.int cv), some (.int P.2), none, none] [] := by
      intro bc bs g1 g2
      refine zr_goto (tgt := 2173) hO dL_law_2156 (by decide) ?_
      exact t_end H hn hq2 hu2 (by omega) g1 g2
    refine zr_if_ne (tgt := 2156) hO dL_law_2141 (by decide) (fun c9 => fin _ _ (by omega) (by omega)) (fun c8 => ?_)
    refine zr_aload_3 hO dL_law_2144 ?_
    refine zr_iconst (v := 0) hO dL_law_2145 (by decide) ?_
    refine zr_lald hO hw (zin_i ⟨by decide, by decide⟩) dL_law_2146 ?_
    refine zV_pc (pc' := 2147) rfl ?_
    refine zr_iload_6 hO dL_law_2147 ?_
    refine zr_i2l hO dL_law_2149 ?_
    refine zV_pc (pc' := 2150) rfl ?_
    refine zr_lcmp_eq (tgt := 2156) hO dL_law_2150 dL_law_2151 (by decide) (fun c7 => fin _ _ (by omega) (by omega)) (fun c7 => absurd (hval c8) c7)
  refine zr_aload_1 hO dL_law_2103 ?_
  refine zr_aload_0 hO dL_law_2104 ?_
  refine zr_iload_4 hO dL_law_2105 ?_
  refine zr_iconst (v := 1) hO dL_law_2107 (by decide) ?_
  refine zr_iadd hO dL_law_2108 ?_
  refine zV_pc (pc' := 2109) rfl ?_
  refine zr_sld hO (by rw [nI_1]; exact sidx hLL hi (by decide)) dL_law_2109 ?_
  refine zr_aload_3 hO dL_law_2110 ?_
  rw [st3_B]
  rcases hR : cP_stuckIn A B (G.2.2.2.2.2 (ix (nI i + 1))) with q9 | E9
  · rw [hR] at ag
    obtain ⟨g1, g2, g3, g4⟩ := ag
    refine zV_pc (pc' := 2111) rfl ?_
    refine z_callSH (As := [.ref x, .int (G.2.2.2.2.2 (ix (nI i + 1))), .ref w]) hO hRm hL (by omega) (by decide) rfl (e_L_stuckIn (d := D - 1) htr hX hA hB (by omega) hw (fun E h => by rw [hR] at h; cases h) (by omega)) zl_L_237 zt_L_stuckIn zc_L_stuckIn rfl zn_L zd_L_stuckIn (Nat.le_of_ble_eq_true rfl) dL_law_2111 (by omega) (by omega) (fun E z ly9 τ9 σ9 h => ?_) (fun v z ly9 τ9 σ9 h => ?_)
    · obtain ⟨h1, rfl, h4⟩ := h
      rw [hR] at h4
      exact absurd h4.1 (by simp)
    · obtain ⟨h1, rfl, h4⟩ := h
      rw [hR] at h4
      obtain ⟨h5, rfl, rfl⟩ := h4
      cases h5
      refine zV_S (S' := fun z => n ≤ z) (fun z9 e9 => by subst e9; exact h1) ?_
      rw [← st3_B]
      refine zV_pc (pc' := 2114) rfl ?_
      exact rest 0 _ _ _ g2 (fun _ => by rw [← g1]; exact zupL_at _ _ _ _) g3 g4
  · rw [hR] at ag
    obtain ⟨g0, g2, g3⟩ := ag
    refine zV_pc (pc' := 2111) rfl ?_
    refine z_callSH (As := [.ref x, .int (G.2.2.2.2.2 (ix (nI i + 1))), .ref w]) hO hRm hL (by omega) (by decide) rfl (e_L_stuckIn (d := D - 1) htr hX hA hB (by omega) hw (fun E h => by rw [hR] at h; cases h; exact g0) (by omega)) zl_L_237 zt_L_stuckIn zc_L_stuckIn rfl zn_L zd_L_stuckIn (Nat.le_of_ble_eq_true rfl) dL_law_2111 (by omega) (by omega) (fun E z ly9 τ9 σ9 h => ?_) (fun v z ly9 τ9 σ9 h => ?_)
    · obtain ⟨h1, rfl, h4⟩ := h
      rw [hR] at h4
      exact absurd h4.1 (by simp)
    · obtain ⟨h1, rfl, h4⟩ := h
      rw [hR] at h4
      obtain ⟨h5, rfl, rfl⟩ := h4
      cases h5
      refine zV_S (S' := fun z => n ≤ z) (fun z9 e9 => by subst e9; exact h1) ?_
      rw [← st3_B]
      refine zV_pc (pc' := 2114) rfl ?_
      exact rest _ _ _ _ g2 (fun h0 => absurd h0 (by simp only [LA, List.mem_cons, List.not_mem_nil, or_false] at g0; subst g0; decide)) g3 hU
set_option maxRecDepth 100000 in
set_option maxHeartbeats 1000000 in
theorem tu_digest {G : zGm} {X : zCx} {l : Launch} {D x w n j i nn K : Nat} {ly : zLy} {τ : zTu} {σ A B M : zSg} (H : zLw G X l D ly x w n) (hn : zHead G X ly σ x w n j (i + 4)) (hQ : zQR nn K A M) (hU : zU B) (hK : K + 160 * (j + 1) + 240 ≤ 190000) (hi : i + 4 ≤ G.2.2.2.2.1) : zV G X 9 (300 * (j + 1)) (2500 * (j + 1)) (fun z => n ≤ z) ly τ (st3 σ x A B M) 2159 [some (.ref G.2.2.2.1), some (.ref x), some (.ref (x + 191)), some (.ref w), some (.int (nI i)), none, none, none, none] [] := by
  obtain ⟨⟨hO, hRm, hL, hD, htr⟩, ⟨hX, hA, hB, hM, hw⟩, ⟨hxw, hwn⟩, hz, hLL⟩ := id H
  have hQ0 := zQR_0 hQ 0
  have hW := zI_W hQ.1
  have hn16 := zI_n hQ0.1
  have e10 : A 0 10 = nI nn := (ze_n (zI_E hQ0.1)).trans hQ0.1.1.2
  obtain ⟨pp, hp3, ep⟩ : ∃ pp, pp ≤ 3 ∧ A 1 0 = nI pp := by
    have h6 : zr1 ((zup M 0 0 0) 0 6) 1 3 := zI_W hQ0.1 0 6
    obtain ⟨pp, hp, e⟩ := of_rng (v := (zup M 0 0 0) 0 6) (n := 4) (by have := h6.1; omega) (by have := h6.2; omega)
    exact ⟨pp, by omega, (ze_pr (zI_E hQ0.1)).trans e⟩
  obtain ⟨gq, gv⟩ := digest_eq hQ0 (by omega)
  refine zr_aload_1 hO dL_law_2159 ?_
  rw [st3_A]
  refine zr_V0 (D := D) hO hRm hL (by omega) (by decide) (c := 6) (by decide) hX rfl rfl (e_X6_digest (d := D - 1) htr hX hA (by omega) e10 hn16 ep hp3) zl_L_240 zi_X6_digest zs_X6_digest zc_X6_digest zn_X6 zd_X6_digest (Nat.le_of_ble_eq_true rfl) dL_law_2160 (by omega) (by omega) ?_
  rw [← st3_A, gv]
  generalize (cF_digest A).1 = A2 at gq ⊢
  refine zr_aload_2 hO dL_law_2163 ?_
  rw [st3_M]
  refine zV_pc (pc' := 2164) rfl ?_
  refine zr_V0 (D := D) hO hRm hL (by omega) (by decide) (c := 7) (by decide) (zM_0 hM) rfl rfl (e_X7_digest (d := D - 1) htr hM (by omega) hW (zI_bl hQ.1) (by omega) hz) zl_L_244 zi_X7_digest zs_X7_digest zc_X7_digest zn_X7 zd_X7_digest (Nat.le_of_ble_eq_true rfl) dL_law_2164 (by omega) (by omega) ?_
  rw [← st3_M]
  refine zV_pc (pc' := 2167) rfl ?_
  refine zr_lcmp_eq (tgt := 2173) hO dL_law_2167 dL_law_2168 (by decide) (fun c7 => t_end H hn gq hU (by omega) (by omega) (by omega)) (fun c7 => absurd rfl c7)
