set_option maxRecDepth 100000 in
set_option maxHeartbeats 4000000 in
theorem e_X7_tickOnce {l : Launch} {G : zGm} {d n o : Nat} {ly : zLy} {τ : zTu} {σ M M2 : zSg} {f : Nat} (htr : l.stackTraces = false) (hM : zM ly o) (hd : 7 ≤ d) (hW : zmW M) (hon : o + 103 ≤ n) (hz : ∀ a, n ≤ a → (ly a).1 = 0)
    (ht : mF_tick f M = some M2) :
    zEv l G d 3 23 (yX7_tickOnce, cX7_tickOnce, 3, none) [.ref o] (fun x => n ≤ x) ly τ (zwr σ o 103 M) (zPl n ly τ (zwr σ o 103 M2) none) := by
  refine zEv_of (ls := [some (.ref o), none, none, none, none, none, none, none, none]) htr (by decide) (Nat.le_of_ble_eq_true rfl) rfl (fun X hO hE hN hRm hL hNm => ?_)
  have hO : zOk G X RX7 cX7_tickOnce 3 := hO
  have key297 : ∀ M1 : zSg, zk M M1 → mT_end M1 = M2 → zV G X 3 0 0 (fun x => n ≤ x) ly τ (zwr σ o 103 M1) 297 [some (.ref o), none, none, none, none, none, none, none, none] [] := by
    intro M1 hM1 he
    refine zr_iconst (v := 0) hO dX7_tickOnce_297 (by decide) ?_
    refine zr_istore_1 hO dX7_tickOnce_298 (by decide) rfl ?_
    refine z_for (P := fun k s => zV G X 3 0 0 (fun x => n ≤ x) ly τ (zwr σ o 103 s) 299 [some (.ref o), some (.int (nI k)), none, none, none, none, none, none, none] []) (ix (M1 0 15)) mB_cw (fun _ s => zk M s) M1 hM1 (fun i s hi h => zk_cw1 h (by have := zmW_n16 hM1.1; omega)) ?_ ?_
    · intro k s hk hIk ih
      have hk16 : k < 16 := by have := zmW_n16 hM1.1; omega
      refine zr_iload_1 hO dX7_tickOnce_299 ?_
      refine zr_aload_0 hO dX7_tickOnce_300 ?_
      refine zg_getfi0 (c := 7) hO (zM_0 hM) (by decide) (by decide) (by decide) zf_X7_110 rfl dX7_tickOnce_301 ?_
      refine zr_icmp_ge (tgt := 365) hO dX7_tickOnce_304 (by decide) (fun c304 => ?_) (fun c304 => ?_)
      · exact absurd (by rw [hIk.2 0 15 rfl, ← hM1.2 0 15 rfl]; exact zlt_T (zmW_n hM1.1) hk) c304
      · refine zr_aload_0 hO dX7_tickOnce_307 ?_
        refine zr_getfr (c := 7) hO (by decide) (by decide) zf_X7_76 (zM_0 hM) rfl rfl dX7_tickOnce_308 ?_
        refine zr_iload_1 hO dX7_tickOnce_311 ?_
        refine zr_aaldIN hO (zM_51 hM) (by omega) (by decide) dX7_tickOnce_312 ?_
        refine zr_iconst (v := 1) hO dX7_tickOnce_313 (by decide) ?_
        refine zr_dup2 hO dX7_tickOnce_314 rfl rfl ?_
        refine zg_iald hO (zM_cnt hM (by omega)) (by have := (by omega); omega) (zin_i ⟨by decide, by decide⟩) dX7_tickOnce_315 ?_
        refine zV_pc (pc' := 316) rfl ?_
        refine zr_aload_0 hO dX7_tickOnce_316 ?_
        refine zr_getfr (c := 7) hO (by decide) (by decide) zf_X7_46 (zM_0 hM) rfl rfl dX7_tickOnce_317 ?_
        refine zr_iload_1 hO dX7_tickOnce_320 ?_
        refine zg_ialdN hO (zM_41 hM) (by decide) (by omega) (by decide) dX7_tickOnce_321 ?_
        refine zr_iconst (v := 1) hO dX7_tickOnce_322 (by decide) ?_
        refine zr_icmp_ne (tgt := 330) hO dX7_tickOnce_323 (by decide) (fun c323 => ?_) (fun c323 => ?_)
        · refine zr_iconst (v := 0) hO dX7_tickOnce_330 (by decide) ?_
          refine zr_iadd hO dX7_tickOnce_331 ?_
          refine zg_iast hO (zM_cnt hM (by omega)) (by have := (by omega); omega) (zin_i ⟨by decide, by decide⟩) dX7_tickOnce_332 ?_
          refine zr_aload_0 hO dX7_tickOnce_333 ?_
          refine zr_getfr (c := 7) hO (by decide) (by decide) zf_X7_76 (zM_0 hM) rfl rfl dX7_tickOnce_334 ?_
          refine zr_iload_1 hO dX7_tickOnce_337 ?_
          refine zr_aaldIN hO (zM_51 hM) (by omega) (by decide) dX7_tickOnce_338 ?_
          refine zV_pc (pc' := 339) rfl ?_
          refine zr_iconst (v := 2) hO dX7_tickOnce_339 (by decide) ?_
          refine zr_dup2 hO dX7_tickOnce_340 rfl rfl ?_
          refine zg_iald hO (zM_cnt hM (by omega)) (by have := (by omega); omega) (zin_i ⟨by decide, by decide⟩) dX7_tickOnce_341 ?_
          refine zr_aload_0 hO dX7_tickOnce_342 ?_
          refine zr_getfr (c := 7) hO (by decide) (by decide) zf_X7_46 (zM_0 hM) rfl rfl dX7_tickOnce_343 ?_
          refine zr_iload_1 hO dX7_tickOnce_346 ?_
          refine zg_ialdN hO (zM_41 hM) (by decide) (by omega) (by decide) dX7_tickOnce_347 ?_
          refine zV_pc (pc' := 348) rfl ?_
          refine zr_iconst (v := 4) hO dX7_tickOnce_348 (by decide) ?_
          refine zr_icmp_ne (tgt := 356) hO dX7_tickOnce_349 (by decide) (fun c349 => ?_) (fun c349 => ?_)
          · refine zr_iconst (v := 0) hO dX7_tickOnce_356 (by decide) ?_
            refine zr_iadd hO dX7_tickOnce_357 ?_
            refine zg_iast hO (zM_cnt hM (by omega)) (by have := (by omega); omega) (zin_i ⟨by decide, by decide⟩) dX7_tickOnce_358 ?_
            refine zr_iinc_1 (v := 1) hO dX7_tickOnce_359 (by decide) (by decide) rfl ?_
            refine zr_goto (tgt := 299) hO dX7_tickOnce_362 (by decide) ?_
            rw [nI_1]
            simp only [mB_cw, if_pos c304, if_neg c323, if_neg c349] at ih
            first | exact ih | contradiction
          · refine zr_iconst (v := 1) hO dX7_tickOnce_352 (by decide) ?_
            refine zr_goto (tgt := 357) hO dX7_tickOnce_353 (by decide) ?_
            refine zr_iadd hO dX7_tickOnce_357 ?_
            refine zg_iast hO (zM_cnt hM (by omega)) (by have := (by omega); omega) (zin_i ⟨by decide, by decide⟩) dX7_tickOnce_358 ?_
            refine zr_iinc_1 (v := 1) hO dX7_tickOnce_359 (by decide) (by decide) rfl ?_
            refine zr_goto (tgt := 299) hO dX7_tickOnce_362 (by decide) ?_
            rw [nI_1]
            simp only [mB_cw, if_pos c304, if_neg c323, if_pos c349] at ih
            first | exact ih | contradiction
        · refine zr_iconst (v := 1) hO dX7_tickOnce_326 (by decide) ?_
          refine zr_goto (tgt := 331) hO dX7_tickOnce_327 (by decide) ?_
          refine zr_iadd hO dX7_tickOnce_331 ?_
          refine zg_iast hO (zM_cnt hM (by omega)) (by have := (by omega); omega) (zin_i ⟨by decide, by decide⟩) dX7_tickOnce_332 ?_
          refine zr_aload_0 hO dX7_tickOnce_333 ?_
          refine zr_getfr (c := 7) hO (by decide) (by decide) zf_X7_76 (zM_0 hM) rfl rfl dX7_tickOnce_334 ?_
          refine zr_iload_1 hO dX7_tickOnce_337 ?_
          refine zV_pc (pc' := 338) rfl ?_
          refine zr_aaldIN hO (zM_51 hM) (by omega) (by decide) dX7_tickOnce_338 ?_
          refine zr_iconst (v := 2) hO dX7_tickOnce_339 (by decide) ?_
          refine zr_dup2 hO dX7_tickOnce_340 rfl rfl ?_
          refine zg_iald hO (zM_cnt hM (by omega)) (by have := (by omega); omega) (zin_i ⟨by decide, by decide⟩) dX7_tickOnce_341 ?_
          refine zr_aload_0 hO dX7_tickOnce_342 ?_
          refine zr_getfr (c := 7) hO (by decide) (by decide) zf_X7_46 (zM_0 hM) rfl rfl dX7_tickOnce_343 ?_
          refine zr_iload_1 hO dX7_tickOnce_346 ?_
          refine zV_pc (pc' := 347) rfl ?_
          refine zg_ialdN hO (zM_41 hM) (by decide) (by omega) (by decide) dX7_tickOnce_347 ?_
          refine zr_iconst (v := 4) hO dX7_tickOnce_348 (by decide) ?_
          refine zr_icmp_ne (tgt := 356) hO dX7_tickOnce_349 (by decide) (fun c349 => ?_) (fun c349 => ?_)
          · refine zr_iconst (v := 0) hO dX7_tickOnce_356 (by decide) ?_
            refine zr_iadd hO dX7_tickOnce_357 ?_
            refine zg_iast hO (zM_cnt hM (by omega)) (by have := (by omega); omega) (zin_i ⟨by decide, by decide⟩) dX7_tickOnce_358 ?_
            refine zr_iinc_1 (v := 1) hO dX7_tickOnce_359 (by decide) (by decide) rfl ?_
            refine zr_goto (tgt := 299) hO dX7_tickOnce_362 (by decide) ?_
            rw [nI_1]
            simp only [mB_cw, if_pos c304, if_pos c323, if_neg c349] at ih
            first | exact ih | contradiction
          · refine zr_iconst (v := 1) hO dX7_tickOnce_352 (by decide) ?_
            refine zr_goto (tgt := 357) hO dX7_tickOnce_353 (by decide) ?_
            refine zr_iadd hO dX7_tickOnce_357 ?_
            refine zg_iast hO (zM_cnt hM (by omega)) (by have := (by omega); omega) (zin_i ⟨by decide, by decide⟩) dX7_tickOnce_358 ?_
            refine zr_iinc_1 (v := 1) hO dX7_tickOnce_359 (by decide) (by decide) rfl ?_
            refine zr_goto (tgt := 299) hO dX7_tickOnce_362 (by decide) ?_
            rw [nI_1]
            simp only [mB_cw, if_pos c304, if_pos c323, if_pos c349] at ih
            first | exact ih | contradiction
    · intro hIk
      refine zr_iload_1 hO dX7_tickOnce_299 ?_
      refine zr_aload_0 hO dX7_tickOnce_300 ?_
      refine zg_getfi0 (c := 7) hO (zM_0 hM) (by decide) (by decide) (by decide) zf_X7_110 rfl dX7_tickOnce_301 ?_
      refine zr_icmp_ge (tgt := 365) hO dX7_tickOnce_304 (by decide) (fun c304 => ?_) (fun c304 => ?_)
      · refine zr_aload_0 hO dX7_tickOnce_365 ?_
        refine zr_dup hO dX7_tickOnce_366 rfl ?_
        refine zg_getfi0 (c := 7) hO (zM_0 hM) (by decide) (by decide) (by decide) zf_X7_95 rfl dX7_tickOnce_367 ?_
        refine zr_iconst (v := 1) hO dX7_tickOnce_370 (by decide) ?_
        refine zr_iadd hO dX7_tickOnce_371 ?_
        refine zg_putfi0 (c := 7) hO (zM_0 hM) (by decide) (by decide) (by decide) zf_X7_95 rfl rfl dX7_tickOnce_372 ?_
        exact zr_return hO hE dX7_tickOnce_375 (zpl_v (by rw [← he]; rfl))
      · exact absurd c304 (by rw [hIk.2 0 15 rfl, ← hM1.2 0 15 rfl]; exact zlt_F (zmW_n hM1.1))
  have key191 : ∀ (j k : Nat) (M1 : zSg), k + j = ix (M 0 6) → zk M M1 → (mT_pl f j k M1).map mT_end = some M2 → zV G X 3 0 0 (fun x => n ≤ x) ly τ (zwr σ o 103 M1) 191 [some (.ref o), some (.int (nI k)), none, none, none, none, none, none, none] [] := by
    intro j
    induction j with
    | zero =>
      intro k M1 hk hM1 h
      cases h
      refine zr_iload_1 hO dX7_tickOnce_191 ?_
      refine zr_aload_0 hO dX7_tickOnce_192 ?_
      refine zg_getfi0 (c := 7) hO (zM_0 hM) (by decide) (by decide) (by decide) zf_X7_16 rfl dX7_tickOnce_193 ?_
      refine zr_icmp_ge (tgt := 297) hO dX7_tickOnce_196 (by decide) (fun c196 => ?_) (fun c196 => ?_)
      · refine zV_d1 ?_
        exact key297 M1 hM1 rfl
      · exact absurd c196 (by rw [hM1.2 0 6 rfl, show k = ix (M 0 6) from by omega]; exact zlt_F (zmW_p hW))
    | succ j ih =>
      intro k M1 hk hM1 h
      have hk3 : k < 3 := by have := zmW_p3 hW; omega
      rw [mT_pl] at h
      refine zr_iload_1 hO dX7_tickOnce_191 ?_
      refine zr_aload_0 hO dX7_tickOnce_192 ?_
      refine zg_getfi0 (c := 7) hO (zM_0 hM) (by decide) (by decide) (by decide) zf_X7_16 rfl dX7_tickOnce_193 ?_
      refine zr_icmp_ge (tgt := 297) hO dX7_tickOnce_196 (by decide) (fun c196 => ?_) (fun c196 => ?_)
      · exact absurd (by rw [hM1.2 0 6 rfl]; exact zlt_T (zmW_p hW) (by omega)) c196
      · refine zr_aload_0 hO dX7_tickOnce_199 ?_
        refine zr_getfr (c := 7) hO (by decide) (by decide) zf_X7_79 (zM_0 hM) rfl rfl dX7_tickOnce_200 ?_
        refine zr_iload_1 hO dX7_tickOnce_203 ?_
        refine zg_ialdN hO (zM_68 hM) (by decide) hk3 (by decide) dX7_tickOnce_204 ?_
        refine zr_istore_2 hO dX7_tickOnce_205 (by decide) rfl ?_
        refine zr_iload_2 hO dX7_tickOnce_206 ?_
        refine zr_iconst (v := (-1)) hO dX7_tickOnce_207 (by decide) ?_
        refine zV_pc (pc' := 208) rfl ?_
        refine zr_icmp_eq (tgt := 229) hO dX7_tickOnce_208 (by decide) (fun c208 => ?_) (fun c208 => ?_)
        · refine zr_aload_0 hO dX7_tickOnce_229 ?_
          refine zr_dup hO dX7_tickOnce_230 rfl ?_
          refine zg_getfi0 (c := 7) hO (zM_0 hM) (by decide) (by decide) (by decide) zf_X7_209 rfl dX7_tickOnce_231 ?_
          refine zr_aload_0 hO dX7_tickOnce_234 ?_
          refine zr_getfr (c := 7) hO (by decide) (by decide) zf_X7_85 (zM_0 hM) rfl rfl dX7_tickOnce_235 ?_
          refine zr_iconst (v := 0) hO dX7_tickOnce_238 (by decide) ?_
          refine zr_aaldIx hO (zM_70 hM) (zin_i ⟨by decide, by decide⟩) dX7_tickOnce_239 (fun hx239_3 => ?_)
          refine zV_pc (pc' := 240) rfl ?_
          refine zr_iload_1 hO dX7_tickOnce_240 ?_
          refine zg_ialdN hO (zM_ran hM hx239_3) (by have := hx239_3; omega) hk3 (by decide) dX7_tickOnce_241 ?_
          refine zr_iconst (v := (-1)) hO dX7_tickOnce_242 (by decide) ?_
          refine zr_icmp_ne (tgt := 250) hO dX7_tickOnce_243 (by decide) (fun c243 => ?_) (fun c243 => ?_)
          · refine zr_iconst (v := 0) hO dX7_tickOnce_250 (by decide) ?_
            refine zr_iadd hO dX7_tickOnce_251 ?_
            refine zg_putfi0 (c := 7) hO (zM_0 hM) (by decide) (by decide) (by decide) zf_X7_209 rfl rfl dX7_tickOnce_252 ?_
            refine zr_aload_0 hO dX7_tickOnce_255 ?_
            refine zr_dup hO dX7_tickOnce_256 rfl ?_
            refine zg_getfi0 (c := 7) hO (zM_0 hM) (by decide) (by decide) (by decide) zf_X7_212 rfl dX7_tickOnce_257 ?_
            refine zr_aload_0 hO dX7_tickOnce_260 ?_
            refine zV_pc (pc' := 261) rfl ?_
            refine zr_getfr (c := 7) hO (by decide) (by decide) zf_X7_85 (zM_0 hM) rfl rfl dX7_tickOnce_261 ?_
            refine zr_iconst (v := 0) hO dX7_tickOnce_264 (by decide) ?_
            refine zr_aaldIx hO (zM_70 hM) (zin_i ⟨by decide, by decide⟩) dX7_tickOnce_265 (fun hx265_4 => ?_)
            refine zr_iload_1 hO dX7_tickOnce_266 ?_
            refine zg_ialdN hO (zM_ran hM hx265_4) (by have := hx265_4; omega) hk3 (by decide) dX7_tickOnce_267 ?_
            refine zr_iconst (v := (-1)) hO dX7_tickOnce_268 (by decide) ?_
            refine zr_icmp_ne (tgt := 276) hO dX7_tickOnce_269 (by decide) (fun c269 => ?_) (fun c269 => ?_)
            · refine zr_iconst (v := 1) hO dX7_tickOnce_276 (by decide) ?_
              refine zr_iadd hO dX7_tickOnce_277 ?_
              refine zg_putfi0 (c := 7) hO (zM_0 hM) (by decide) (by decide) (by decide) zf_X7_212 rfl rfl dX7_tickOnce_278 ?_
              refine zr_aload_0 hO dX7_tickOnce_281 ?_
              refine zr_dup hO dX7_tickOnce_282 rfl ?_
              refine zg_getfi0 (c := 7) hO (zM_0 hM) (by decide) (by decide) (by decide) zf_X7_215 rfl dX7_tickOnce_283 ?_
              refine zr_iconst (v := 1) hO dX7_tickOnce_286 (by decide) ?_
              refine zV_pc (pc' := 287) rfl ?_
              refine zr_iadd hO dX7_tickOnce_287 ?_
              refine zg_putfi0 (c := 7) hO (zM_0 hM) (by decide) (by decide) (by decide) zf_X7_215 rfl rfl dX7_tickOnce_288 ?_
              refine zr_iinc_1 (v := 1) hO dX7_tickOnce_291 (by decide) (by decide) rfl ?_
              refine zr_goto (tgt := 191) hO dX7_tickOnce_294 (by decide) ?_
              refine zV_d2 ?_
              have hgo2 : mT_go f M1 k = some (false, M1) := by unfold mT_go; rw [if_pos c208]
              have hz9 := zk_aft (zk_tgo hM1 hk3 hgo2) false k (M1 68 k)
              rw [hgo2] at h
              replace h : (mT_pl f j (k + 1) (mT_aft false k (M1 68 k) M1)).map mT_end = some M2 := h
              simp only [mT_aft, Bool.false_eq_true, if_false, if_neg c243, if_neg c269] at h hz9
              rw [nI_1]
              first | exact ih (k + 1) _ (by omega) hz9 h | contradiction
            · refine zr_iconst (v := 0) hO dX7_tickOnce_272 (by decide) ?_
              refine zr_goto (tgt := 277) hO dX7_tickOnce_273 (by decide) ?_
              refine zr_iadd hO dX7_tickOnce_277 ?_
              refine zg_putfi0 (c := 7) hO (zM_0 hM) (by decide) (by decide) (by decide) zf_X7_212 rfl rfl dX7_tickOnce_278 ?_
              refine zr_aload_0 hO dX7_tickOnce_281 ?_
              refine zr_dup hO dX7_tickOnce_282 rfl ?_
              refine zg_getfi0 (c := 7) hO (zM_0 hM) (by decide) (by decide) (by decide) zf_X7_215 rfl dX7_tickOnce_283 ?_
              refine zV_pc (pc' := 286) rfl ?_
              refine zr_iconst (v := 1) hO dX7_tickOnce_286 (by decide) ?_
              refine zr_iadd hO dX7_tickOnce_287 ?_
              refine zg_putfi0 (c := 7) hO (zM_0 hM) (by decide) (by decide) (by decide) zf_X7_215 rfl rfl dX7_tickOnce_288 ?_
              refine zr_iinc_1 (v := 1) hO dX7_tickOnce_291 (by decide) (by decide) rfl ?_
              refine zr_goto (tgt := 191) hO dX7_tickOnce_294 (by decide) ?_
              refine zV_d2 ?_
              have hgo2 : mT_go f M1 k = some (false, M1) := by unfold mT_go; rw [if_pos c208]
              have hz9 := zk_aft (zk_tgo hM1 hk3 hgo2) false k (M1 68 k)
              rw [hgo2] at h
              replace h : (mT_pl f j (k + 1) (mT_aft false k (M1 68 k) M1)).map mT_end = some M2 := h
              simp only [mT_aft, Bool.false_eq_true, if_false, if_neg c243, if_pos c269] at h hz9
              rw [nI_1]
              first | exact ih (k + 1) _ (by omega) hz9 h | contradiction
          · refine zr_iconst (v := 1) hO dX7_tickOnce_246 (by decide) ?_
            refine zr_goto (tgt := 251) hO dX7_tickOnce_247 (by decide) ?_
            refine zr_iadd hO dX7_tickOnce_251 ?_
            refine zg_putfi0 (c := 7) hO (zM_0 hM) (by decide) (by decide) (by decide) zf_X7_209 rfl rfl dX7_tickOnce_252 ?_
            refine zr_aload_0 hO dX7_tickOnce_255 ?_
            refine zr_dup hO dX7_tickOnce_256 rfl ?_
            refine zg_getfi0 (c := 7) hO (zM_0 hM) (by decide) (by decide) (by decide) zf_X7_212 rfl dX7_tickOnce_257 ?_
            refine zV_pc (pc' := 260) rfl ?_
            refine zr_aload_0 hO dX7_tickOnce_260 ?_
            refine zr_getfr (c := 7) hO (by decide) (by decide) zf_X7_85 (zM_0 hM) rfl rfl dX7_tickOnce_261 ?_
            refine zr_iconst (v := 0) hO dX7_tickOnce_264 (by decide) ?_
            refine zr_aaldIx hO (zM_70 hM) (zin_i ⟨by decide, by decide⟩) dX7_tickOnce_265 (fun hx265_5 => ?_)
            refine zr_iload_1 hO dX7_tickOnce_266 ?_
            refine zg_ialdN hO (zM_ran hM hx265_5) (by have := hx265_5; omega) hk3 (by decide) dX7_tickOnce_267 ?_
            refine zr_iconst (v := (-1)) hO dX7_tickOnce_268 (by decide) ?_
            refine zV_pc (pc' := 269) rfl ?_
            refine zr_icmp_ne (tgt := 276) hO dX7_tickOnce_269 (by decide) (fun c269 => ?_) (fun c269 => ?_)
            · refine zr_iconst (v := 1) hO dX7_tickOnce_276 (by decide) ?_
              refine zr_iadd hO dX7_tickOnce_277 ?_
              refine zg_putfi0 (c := 7) hO (zM_0 hM) (by decide) (by decide) (by decide) zf_X7_212 rfl rfl dX7_tickOnce_278 ?_
              refine zr_aload_0 hO dX7_tickOnce_281 ?_
              refine zr_dup hO dX7_tickOnce_282 rfl ?_
              refine zg_getfi0 (c := 7) hO (zM_0 hM) (by decide) (by decide) (by decide) zf_X7_215 rfl dX7_tickOnce_283 ?_
              refine zr_iconst (v := 1) hO dX7_tickOnce_286 (by decide) ?_
              refine zV_pc (pc' := 287) rfl ?_
              refine zr_iadd hO dX7_tickOnce_287 ?_
              refine zg_putfi0 (c := 7) hO (zM_0 hM) (by decide) (by decide) (by decide) zf_X7_215 rfl rfl dX7_tickOnce_288 ?_
              refine zr_iinc_1 (v := 1) hO dX7_tickOnce_291 (by decide) (by decide) rfl ?_
              refine zr_goto (tgt := 191) hO dX7_tickOnce_294 (by decide) ?_
              refine zV_d2 ?_
              have hgo2 : mT_go f M1 k = some (false, M1) := by unfold mT_go; rw [if_pos c208]
              have hz9 := zk_aft (zk_tgo hM1 hk3 hgo2) false k (M1 68 k)
              rw [hgo2] at h
              replace h : (mT_pl f j (k + 1) (mT_aft false k (M1 68 k) M1)).map mT_end = some M2 := h
              simp only [mT_aft, Bool.false_eq_true, if_false, if_pos c243, if_neg c269] at h hz9
              rw [nI_1]
              first | exact ih (k + 1) _ (by omega) hz9 h | contradiction
            · refine zr_iconst (v := 0) hO dX7_tickOnce_272 (by decide) ?_
              refine zr_goto (tgt := 277) hO dX7_tickOnce_273 (by decide) ?_
              refine zr_iadd hO dX7_tickOnce_277 ?_
              refine zg_putfi0 (c := 7) hO (zM_0 hM) (by decide) (by decide) (by decide) zf_X7_212 rfl rfl dX7_tickOnce_278 ?_
              refine zr_aload_0 hO dX7_tickOnce_281 ?_
              refine zr_dup hO dX7_tickOnce_282 rfl ?_
              refine zg_getfi0 (c := 7) hO (zM_0 hM) (by decide) (by decide) (by decide) zf_X7_215 rfl dX7_tickOnce_283 ?_
              refine zV_pc (pc' := 286) rfl ?_
              refine zr_iconst (v := 1) hO dX7_tickOnce_286 (by decide) ?_
              refine zr_iadd hO dX7_tickOnce_287 ?_
              refine zg_putfi0 (c := 7) hO (zM_0 hM) (by decide) (by decide) (by decide) zf_X7_215 rfl rfl dX7_tickOnce_288 ?_
              refine zr_iinc_1 (v := 1) hO dX7_tickOnce_291 (by decide) (by decide) rfl ?_
              refine zr_goto (tgt := 191) hO dX7_tickOnce_294 (by decide) ?_
              refine zV_d2 ?_
              have hgo2 : mT_go f M1 k = some (false, M1) := by unfold mT_go; rw [if_pos c208]
              have hz9 := zk_aft (zk_tgo hM1 hk3 hgo2) false k (M1 68 k)
              rw [hgo2] at h
              replace h : (mT_pl f j (k + 1) (mT_aft false k (M1 68 k) M1)).map mT_end = some M2 := h
              simp only [mT_aft, Bool.false_eq_true, if_false, if_pos c243, if_pos c269] at h hz9
              rw [nI_1]
              first | exact ih (k + 1) _ (by omega) hz9 h | contradiction
        · have ht68 : vp_in (M1 68 k) 16 := zin_m1 (b := 15) (hM1.1 68 _) (by decide) c208
          rcases hgo : mF_goOn f M1 (M1 68 k) (nI k) with _ | ⟨b, Mg⟩
          · rw [show mT_go f M1 k = none from by unfold mT_go; rw [if_neg c208]; exact hgo] at h; cases h
          have hgo2 : mT_go f M1 k = some (b, Mg) := by unfold mT_go; rw [if_neg c208]; exact hgo
          refine zr_aload_0 hO dX7_tickOnce_211 ?_
          refine zr_iload_2 hO dX7_tickOnce_212 ?_
          refine zr_iload_1 hO dX7_tickOnce_213 ?_
          refine zr_V2 (D := d) hO hRm hL (by omega) (by decide) (c := 7) (by decide) (zM_0 hM) rfl rfl (e_X7_goOn (d := d - 1) htr hM (by omega) hM1.1 ht68 (vp_in_nI hk3 (by decide)) f hgo) zl_X7_205 zi_X7_goOn zs_X7_goOn zc_X7_goOn zn_X7 zd_X7_goOn (Nat.le_of_ble_eq_true rfl) dX7_tickOnce_214 (by omega) (by omega) ?_
          refine zr_ifb_eq (tgt := 229) hO dX7_tickOnce_217 (by decide) (fun c217 => ?_) (fun c217 => ?_)
          · refine zr_aload_0 hO dX7_tickOnce_229 ?_
            refine zr_dup hO dX7_tickOnce_230 rfl ?_
            refine zg_getfi0 (c := 7) hO (zM_0 hM) (by decide) (by decide) (by decide) zf_X7_209 rfl dX7_tickOnce_231 ?_
            refine zr_aload_0 hO dX7_tickOnce_234 ?_
            refine zr_getfr (c := 7) hO (by decide) (by decide) zf_X7_85 (zM_0 hM) rfl rfl dX7_tickOnce_235 ?_
            refine zr_iconst (v := 0) hO dX7_tickOnce_238 (by decide) ?_
            refine zr_aaldIx hO (zM_70 hM) (zin_i ⟨by decide, by decide⟩) dX7_tickOnce_239 (fun hx239_6 => ?_)
            refine zV_pc (pc' := 240) rfl ?_
            refine zr_iload_1 hO dX7_tickOnce_240 ?_
            refine zg_ialdN hO (zM_ran hM hx239_6) (by have := hx239_6; omega) hk3 (by decide) dX7_tickOnce_241 ?_
            refine zr_iconst (v := (-1)) hO dX7_tickOnce_242 (by decide) ?_
            refine zr_icmp_ne (tgt := 250) hO dX7_tickOnce_243 (by decide) (fun c243 => ?_) (fun c243 => ?_)
            · refine zr_iconst (v := 0) hO dX7_tickOnce_250 (by decide) ?_
              refine zr_iadd hO dX7_tickOnce_251 ?_
              refine zg_putfi0 (c := 7) hO (zM_0 hM) (by decide) (by decide) (by decide) zf_X7_209 rfl rfl dX7_tickOnce_252 ?_
              refine zr_aload_0 hO dX7_tickOnce_255 ?_
              refine zr_dup hO dX7_tickOnce_256 rfl ?_
              refine zg_getfi0 (c := 7) hO (zM_0 hM) (by decide) (by decide) (by decide) zf_X7_212 rfl dX7_tickOnce_257 ?_
              refine zr_aload_0 hO dX7_tickOnce_260 ?_
              refine zV_pc (pc' := 261) rfl ?_
              refine zr_getfr (c := 7) hO (by decide) (by decide) zf_X7_85 (zM_0 hM) rfl rfl dX7_tickOnce_261 ?_
              refine zr_iconst (v := 0) hO dX7_tickOnce_264 (by decide) ?_
              refine zr_aaldIx hO (zM_70 hM) (zin_i ⟨by decide, by decide⟩) dX7_tickOnce_265 (fun hx265_7 => ?_)
              refine zr_iload_1 hO dX7_tickOnce_266 ?_
              refine zg_ialdN hO (zM_ran hM hx265_7) (by have := hx265_7; omega) hk3 (by decide) dX7_tickOnce_267 ?_
              refine zr_iconst (v := (-1)) hO dX7_tickOnce_268 (by decide) ?_
              refine zr_icmp_ne (tgt := 276) hO dX7_tickOnce_269 (by decide) (fun c269 => ?_) (fun c269 => ?_)
              · refine zr_iconst (v := 1) hO dX7_tickOnce_276 (by decide) ?_
                refine zr_iadd hO dX7_tickOnce_277 ?_
                refine zg_putfi0 (c := 7) hO (zM_0 hM) (by decide) (by decide) (by decide) zf_X7_212 rfl rfl dX7_tickOnce_278 ?_
                refine zr_aload_0 hO dX7_tickOnce_281 ?_
                refine zr_dup hO dX7_tickOnce_282 rfl ?_
                refine zg_getfi0 (c := 7) hO (zM_0 hM) (by decide) (by decide) (by decide) zf_X7_215 rfl dX7_tickOnce_283 ?_
                refine zr_iconst (v := 1) hO dX7_tickOnce_286 (by decide) ?_
                refine zV_pc (pc' := 287) rfl ?_
                refine zr_iadd hO dX7_tickOnce_287 ?_
                refine zg_putfi0 (c := 7) hO (zM_0 hM) (by decide) (by decide) (by decide) zf_X7_215 rfl rfl dX7_tickOnce_288 ?_
                refine zr_iinc_1 (v := 1) hO dX7_tickOnce_291 (by decide) (by decide) rfl ?_
                refine zr_goto (tgt := 191) hO dX7_tickOnce_294 (by decide) ?_
                refine zV_d2 ?_
                have hz9 := zk_aft (zk_tgo hM1 hk3 hgo2) b k (M1 68 k)
                rw [hgo2] at h
                replace h : (mT_pl f j (k + 1) (mT_aft b k (M1 68 k) Mg)).map mT_end = some M2 := h
                simp only [mT_aft, if_neg (zif_f c217), if_neg c243, if_neg c269] at h hz9
                rw [nI_1]
                first | exact ih (k + 1) _ (by omega) hz9 h | contradiction
              · refine zr_iconst (v := 0) hO dX7_tickOnce_272 (by decide) ?_
                refine zr_goto (tgt := 277) hO dX7_tickOnce_273 (by decide) ?_
                refine zr_iadd hO dX7_tickOnce_277 ?_
                refine zg_putfi0 (c := 7) hO (zM_0 hM) (by decide) (by decide) (by decide) zf_X7_212 rfl rfl dX7_tickOnce_278 ?_
                refine zr_aload_0 hO dX7_tickOnce_281 ?_
                refine zr_dup hO dX7_tickOnce_282 rfl ?_
                refine zg_getfi0 (c := 7) hO (zM_0 hM) (by decide) (by decide) (by decide) zf_X7_215 rfl dX7_tickOnce_283 ?_
                refine zV_pc (pc' := 286) rfl ?_
                refine zr_iconst (v := 1) hO dX7_tickOnce_286 (by decide) ?_
                refine zr_iadd hO dX7_tickOnce_287 ?_
                refine zg_putfi0 (c := 7) hO (zM_0 hM) (by decide) (by decide) (by decide) zf_X7_215 rfl rfl dX7_tickOnce_288 ?_
                refine zr_iinc_1 (v := 1) hO dX7_tickOnce_291 (by decide) (by decide) rfl ?_
                refine zr_goto (tgt := 191) hO dX7_tickOnce_294 (by decide) ?_
                refine zV_d2 ?_
                have hz9 := zk_aft (zk_tgo hM1 hk3 hgo2) b k (M1 68 k)
                rw [hgo2] at h
                replace h : (mT_pl f j (k + 1) (mT_aft b k (M1 68 k) Mg)).map mT_end = some M2 := h
                simp only [mT_aft, if_neg (zif_f c217), if_neg c243, if_pos c269] at h hz9
                rw [nI_1]
                first | exact ih (k + 1) _ (by omega) hz9 h | contradiction
            · refine zr_iconst (v := 1) hO dX7_tickOnce_246 (by decide) ?_
              refine zr_goto (tgt := 251) hO dX7_tickOnce_247 (by decide) ?_
              refine zr_iadd hO dX7_tickOnce_251 ?_
              refine zg_putfi0 (c := 7) hO (zM_0 hM) (by decide) (by decide) (by decide) zf_X7_209 rfl rfl dX7_tickOnce_252 ?_
              refine zr_aload_0 hO dX7_tickOnce_255 ?_
              refine zr_dup hO dX7_tickOnce_256 rfl ?_
              refine zg_getfi0 (c := 7) hO (zM_0 hM) (by decide) (by decide) (by decide) zf_X7_212 rfl dX7_tickOnce_257 ?_
              refine zV_pc (pc' := 260) rfl ?_
              refine zr_aload_0 hO dX7_tickOnce_260 ?_
              refine zr_getfr (c := 7) hO (by decide) (by decide) zf_X7_85 (zM_0 hM) rfl rfl dX7_tickOnce_261 ?_
              refine zr_iconst (v := 0) hO dX7_tickOnce_264 (by decide) ?_
              refine zr_aaldIx hO (zM_70 hM) (zin_i ⟨by decide, by decide⟩) dX7_tickOnce_265 (fun hx265_8 => ?_)
              refine zr_iload_1 hO dX7_tickOnce_266 ?_
              refine zg_ialdN hO (zM_ran hM hx265_8) (by have := hx265_8; omega) hk3 (by decide) dX7_tickOnce_267 ?_
              refine zr_iconst (v := (-1)) hO dX7_tickOnce_268 (by decide) ?_
              refine zV_pc (pc' := 269) rfl ?_
              refine zr_icmp_ne (tgt := 276) hO dX7_tickOnce_269 (by decide) (fun c269 => ?_) (fun c269 => ?_)
              · refine zr_iconst (v := 1) hO dX7_tickOnce_276 (by decide) ?_
                refine zr_iadd hO dX7_tickOnce_277 ?_
                refine zg_putfi0 (c := 7) hO (zM_0 hM) (by decide) (by decide) (by decide) zf_X7_212 rfl rfl dX7_tickOnce_278 ?_
                refine zr_aload_0 hO dX7_tickOnce_281 ?_
                refine zr_dup hO dX7_tickOnce_282 rfl ?_
                refine zg_getfi0 (c := 7) hO (zM_0 hM) (by decide) (by decide) (by decide) zf_X7_215 rfl dX7_tickOnce_283 ?_
                refine zr_iconst (v := 1) hO dX7_tickOnce_286 (by decide) ?_
                refine zV_pc (pc' := 287) rfl ?_
                refine zr_iadd hO dX7_tickOnce_287 ?_
                refine zg_putfi0 (c := 7) hO (zM_0 hM) (by decide) (by decide) (by decide) zf_X7_215 rfl rfl dX7_tickOnce_288 ?_
                refine zr_iinc_1 (v := 1) hO dX7_tickOnce_291 (by decide) (by decide) rfl ?_
                refine zr_goto (tgt := 191) hO dX7_tickOnce_294 (by decide) ?_
                refine zV_d2 ?_
                have hz9 := zk_aft (zk_tgo hM1 hk3 hgo2) b k (M1 68 k)
                rw [hgo2] at h
                replace h : (mT_pl f j (k + 1) (mT_aft b k (M1 68 k) Mg)).map mT_end = some M2 := h
                simp only [mT_aft, if_neg (zif_f c217), if_pos c243, if_neg c269] at h hz9
                rw [nI_1]
                first | exact ih (k + 1) _ (by omega) hz9 h | contradiction
              · refine zr_iconst (v := 0) hO dX7_tickOnce_272 (by decide) ?_
                refine zr_goto (tgt := 277) hO dX7_tickOnce_273 (by decide) ?_
                refine zr_iadd hO dX7_tickOnce_277 ?_
                refine zg_putfi0 (c := 7) hO (zM_0 hM) (by decide) (by decide) (by decide) zf_X7_212 rfl rfl dX7_tickOnce_278 ?_
                refine zr_aload_0 hO dX7_tickOnce_281 ?_
                refine zr_dup hO dX7_tickOnce_282 rfl ?_
                refine zg_getfi0 (c := 7) hO (zM_0 hM) (by decide) (by decide) (by decide) zf_X7_215 rfl dX7_tickOnce_283 ?_
                refine zV_pc (pc' := 286) rfl ?_
                refine zr_iconst (v := 1) hO dX7_tickOnce_286 (by decide) ?_
                refine zr_iadd hO dX7_tickOnce_287 ?_
                refine zg_putfi0 (c := 7) hO (zM_0 hM) (by decide) (by decide) (by decide) zf_X7_215 rfl rfl dX7_tickOnce_288 ?_
                refine zr_iinc_1 (v := 1) hO dX7_tickOnce_291 (by decide) (by decide) rfl ?_
                refine zr_goto (tgt := 191) hO dX7_tickOnce_294 (by decide) ?_
                refine zV_d2 ?_
                have hz9 := zk_aft (zk_tgo hM1 hk3 hgo2) b k (M1 68 k)
                rw [hgo2] at h
                replace h : (mT_pl f j (k + 1) (mT_aft b k (M1 68 k) Mg)).map mT_end = some M2 := h
                simp only [mT_aft, if_neg (zif_f c217), if_pos c243, if_pos c269] at h hz9
                rw [nI_1]
                first | exact ih (k + 1) _ (by omega) hz9 h | contradiction
          · refine zr_aload_0 hO dX7_tickOnce_220 ?_
            refine zr_getfr (c := 7) hO (by decide) (by decide) zf_X7_85 (zM_0 hM) rfl rfl dX7_tickOnce_221 ?_
            refine zr_iconst (v := 0) hO dX7_tickOnce_224 (by decide) ?_
            refine zr_aaldIx hO (zM_70 hM) (zin_i ⟨by decide, by decide⟩) dX7_tickOnce_225 (fun hx225_9 => ?_)
            refine zr_iload_1 hO dX7_tickOnce_226 ?_
            refine zr_iload_2 hO dX7_tickOnce_227 ?_
            refine zg_iastN hO (zM_ran hM hx225_9) (by have := hx225_9; omega) hk3 (by decide) dX7_tickOnce_228 ?_
            refine zV_pc (pc' := 229) rfl ?_
            refine zr_aload_0 hO dX7_tickOnce_229 ?_
            refine zr_dup hO dX7_tickOnce_230 rfl ?_
            refine zg_getfi0 (c := 7) hO (zM_0 hM) (by decide) (by decide) (by decide) zf_X7_209 rfl dX7_tickOnce_231 ?_
            refine zr_aload_0 hO dX7_tickOnce_234 ?_
            refine zr_getfr (c := 7) hO (by decide) (by decide) zf_X7_85 (zM_0 hM) rfl rfl dX7_tickOnce_235 ?_
            refine zr_iconst (v := 0) hO dX7_tickOnce_238 (by decide) ?_
            refine zr_aaldIx hO (zM_70 hM) (zin_i ⟨by decide, by decide⟩) dX7_tickOnce_239 (fun hx239_10 => ?_)
            refine zV_pc (pc' := 240) rfl ?_
            refine zr_iload_1 hO dX7_tickOnce_240 ?_
            refine zg_ialdN hO (zM_ran hM hx239_10) (by have := hx239_10; omega) hk3 (by decide) dX7_tickOnce_241 ?_
            refine zr_iconst (v := (-1)) hO dX7_tickOnce_242 (by decide) ?_
            refine zr_icmp_ne (tgt := 250) hO dX7_tickOnce_243 (by decide) (fun c243 => ?_) (fun c243 => ?_)
            · refine zr_iconst (v := 0) hO dX7_tickOnce_250 (by decide) ?_
              refine zr_iadd hO dX7_tickOnce_251 ?_
              refine zg_putfi0 (c := 7) hO (zM_0 hM) (by decide) (by decide) (by decide) zf_X7_209 rfl rfl dX7_tickOnce_252 ?_
              refine zr_aload_0 hO dX7_tickOnce_255 ?_
              refine zr_dup hO dX7_tickOnce_256 rfl ?_
              refine zg_getfi0 (c := 7) hO (zM_0 hM) (by decide) (by decide) (by decide) zf_X7_212 rfl dX7_tickOnce_257 ?_
              refine zr_aload_0 hO dX7_tickOnce_260 ?_
              refine zV_pc (pc' := 261) rfl ?_
              refine zr_getfr (c := 7) hO (by decide) (by decide) zf_X7_85 (zM_0 hM) rfl rfl dX7_tickOnce_261 ?_
              refine zr_iconst (v := 0) hO dX7_tickOnce_264 (by decide) ?_
              refine zr_aaldIx hO (zM_70 hM) (zin_i ⟨by decide, by decide⟩) dX7_tickOnce_265 (fun hx265_11 => ?_)
              refine zr_iload_1 hO dX7_tickOnce_266 ?_
              refine zg_ialdN hO (zM_ran hM hx265_11) (by have := hx265_11; omega) hk3 (by decide) dX7_tickOnce_267 ?_
              refine zr_iconst (v := (-1)) hO dX7_tickOnce_268 (by decide) ?_
              refine zr_icmp_ne (tgt := 276) hO dX7_tickOnce_269 (by decide) (fun c269 => ?_) (fun c269 => ?_)
              · refine zr_iconst (v := 1) hO dX7_tickOnce_276 (by decide) ?_
                refine zr_iadd hO dX7_tickOnce_277 ?_
                refine zg_putfi0 (c := 7) hO (zM_0 hM) (by decide) (by decide) (by decide) zf_X7_212 rfl rfl dX7_tickOnce_278 ?_
                refine zr_aload_0 hO dX7_tickOnce_281 ?_
                refine zr_dup hO dX7_tickOnce_282 rfl ?_
                refine zg_getfi0 (c := 7) hO (zM_0 hM) (by decide) (by decide) (by decide) zf_X7_215 rfl dX7_tickOnce_283 ?_
                refine zr_iconst (v := 1) hO dX7_tickOnce_286 (by decide) ?_
                refine zV_pc (pc' := 287) rfl ?_
                refine zr_iadd hO dX7_tickOnce_287 ?_
                refine zg_putfi0 (c := 7) hO (zM_0 hM) (by decide) (by decide) (by decide) zf_X7_215 rfl rfl dX7_tickOnce_288 ?_
                refine zr_iinc_1 (v := 1) hO dX7_tickOnce_291 (by decide) (by decide) rfl ?_
                refine zr_goto (tgt := 191) hO dX7_tickOnce_294 (by decide) ?_
                refine zV_d2 ?_
                have hz9 := zk_aft (zk_tgo hM1 hk3 hgo2) b k (M1 68 k)
                rw [hgo2] at h
                replace h : (mT_pl f j (k + 1) (mT_aft b k (M1 68 k) Mg)).map mT_end = some M2 := h
                simp only [mT_aft, if_pos c217, if_neg c243, if_neg c269] at h hz9
                rw [nI_1]
                first | exact ih (k + 1) _ (by omega) hz9 h | contradiction
              · refine zr_iconst (v := 0) hO dX7_tickOnce_272 (by decide) ?_
                refine zr_goto (tgt := 277) hO dX7_tickOnce_273 (by decide) ?_
                refine zr_iadd hO dX7_tickOnce_277 ?_
                refine zg_putfi0 (c := 7) hO (zM_0 hM) (by decide) (by decide) (by decide) zf_X7_212 rfl rfl dX7_tickOnce_278 ?_
                refine zr_aload_0 hO dX7_tickOnce_281 ?_
                refine zr_dup hO dX7_tickOnce_282 rfl ?_
                refine zg_getfi0 (c := 7) hO (zM_0 hM) (by decide) (by decide) (by decide) zf_X7_215 rfl dX7_tickOnce_283 ?_
                refine zV_pc (pc' := 286) rfl ?_
                refine zr_iconst (v := 1) hO dX7_tickOnce_286 (by decide) ?_
                refine zr_iadd hO dX7_tickOnce_287 ?_
                refine zg_putfi0 (c := 7) hO (zM_0 hM) (by decide) (by decide) (by decide) zf_X7_215 rfl rfl dX7_tickOnce_288 ?_
                refine zr_iinc_1 (v := 1) hO dX7_tickOnce_291 (by decide) (by decide) rfl ?_
                refine zr_goto (tgt := 191) hO dX7_tickOnce_294 (by decide) ?_
                refine zV_d2 ?_
                have hz9 := zk_aft (zk_tgo hM1 hk3 hgo2) b k (M1 68 k)
                rw [hgo2] at h
                replace h : (mT_pl f j (k + 1) (mT_aft b k (M1 68 k) Mg)).map mT_end = some M2 := h
                simp only [mT_aft, if_pos c217, if_neg c243, if_pos c269] at h hz9
                rw [nI_1]
                first | exact ih (k + 1) _ (by omega) hz9 h | contradiction
            · refine zr_iconst (v := 1) hO dX7_tickOnce_246 (by decide) ?_
              refine zr_goto (tgt := 251) hO dX7_tickOnce_247 (by decide) ?_
              refine zr_iadd hO dX7_tickOnce_251 ?_
              refine zg_putfi0 (c := 7) hO (zM_0 hM) (by decide) (by decide) (by decide) zf_X7_209 rfl rfl dX7_tickOnce_252 ?_
              refine zr_aload_0 hO dX7_tickOnce_255 ?_
              refine zr_dup hO dX7_tickOnce_256 rfl ?_
              refine zg_getfi0 (c := 7) hO (zM_0 hM) (by decide) (by decide) (by decide) zf_X7_212 rfl dX7_tickOnce_257 ?_
              refine zV_pc (pc' := 260) rfl ?_
              refine zr_aload_0 hO dX7_tickOnce_260 ?_
              refine zr_getfr (c := 7) hO (by decide) (by decide) zf_X7_85 (zM_0 hM) rfl rfl dX7_tickOnce_261 ?_
              refine zr_iconst (v := 0) hO dX7_tickOnce_264 (by decide) ?_
              refine zr_aaldIx hO (zM_70 hM) (zin_i ⟨by decide, by decide⟩) dX7_tickOnce_265 (fun hx265_12 => ?_)
              refine zr_iload_1 hO dX7_tickOnce_266 ?_
              refine zg_ialdN hO (zM_ran hM hx265_12) (by have := hx265_12; omega) hk3 (by decide) dX7_tickOnce_267 ?_
              refine zr_iconst (v := (-1)) hO dX7_tickOnce_268 (by decide) ?_
              refine zV_pc (pc' := 269) rfl ?_
              refine zr_icmp_ne (tgt := 276) hO dX7_tickOnce_269 (by decide) (fun c269 => ?_) (fun c269 => ?_)
              · refine zr_iconst (v := 1) hO dX7_tickOnce_276 (by decide) ?_
                refine zr_iadd hO dX7_tickOnce_277 ?_
                refine zg_putfi0 (c := 7) hO (zM_0 hM) (by decide) (by decide) (by decide) zf_X7_212 rfl rfl dX7_tickOnce_278 ?_
                refine zr_aload_0 hO dX7_tickOnce_281 ?_
                refine zr_dup hO dX7_tickOnce_282 rfl ?_
                refine zg_getfi0 (c := 7) hO (zM_0 hM) (by decide) (by decide) (by decide) zf_X7_215 rfl dX7_tickOnce_283 ?_
                refine zr_iconst (v := 1) hO dX7_tickOnce_286 (by decide) ?_
                refine zV_pc (pc' := 287) rfl ?_
                refine zr_iadd hO dX7_tickOnce_287 ?_
                refine zg_putfi0 (c := 7) hO (zM_0 hM) (by decide) (by decide) (by decide) zf_X7_215 rfl rfl dX7_tickOnce_288 ?_
                refine zr_iinc_1 (v := 1) hO dX7_tickOnce_291 (by decide) (by decide) rfl ?_
                refine zr_goto (tgt := 191) hO dX7_tickOnce_294 (by decide) ?_
                refine zV_d2 ?_
                have hz9 := zk_aft (zk_tgo hM1 hk3 hgo2) b k (M1 68 k)
                rw [hgo2] at h
                replace h : (mT_pl f j (k + 1) (mT_aft b k (M1 68 k) Mg)).map mT_end = some M2 := h
                simp only [mT_aft, if_pos c217, if_pos c243, if_neg c269] at h hz9
                rw [nI_1]
                first | exact ih (k + 1) _ (by omega) hz9 h | contradiction
              · refine zr_iconst (v := 0) hO dX7_tickOnce_272 (by decide) ?_
                refine zr_goto (tgt := 277) hO dX7_tickOnce_273 (by decide) ?_
                refine zr_iadd hO dX7_tickOnce_277 ?_
                refine zg_putfi0 (c := 7) hO (zM_0 hM) (by decide) (by decide) (by decide) zf_X7_212 rfl rfl dX7_tickOnce_278 ?_
                refine zr_aload_0 hO dX7_tickOnce_281 ?_
                refine zr_dup hO dX7_tickOnce_282 rfl ?_
                refine zg_getfi0 (c := 7) hO (zM_0 hM) (by decide) (by decide) (by decide) zf_X7_215 rfl dX7_tickOnce_283 ?_
                refine zV_pc (pc' := 286) rfl ?_
                refine zr_iconst (v := 1) hO dX7_tickOnce_286 (by decide) ?_
                refine zr_iadd hO dX7_tickOnce_287 ?_
                refine zg_putfi0 (c := 7) hO (zM_0 hM) (by decide) (by decide) (by decide) zf_X7_215 rfl rfl dX7_tickOnce_288 ?_
                refine zr_iinc_1 (v := 1) hO dX7_tickOnce_291 (by decide) (by decide) rfl ?_
                refine zr_goto (tgt := 191) hO dX7_tickOnce_294 (by decide) ?_
                refine zV_d2 ?_
                have hz9 := zk_aft (zk_tgo hM1 hk3 hgo2) b k (M1 68 k)
                rw [hgo2] at h
                replace h : (mT_pl f j (k + 1) (mT_aft b k (M1 68 k) Mg)).map mT_end = some M2 := h
                simp only [mT_aft, if_pos c217, if_pos c243, if_pos c269] at h hz9
                rw [nI_1]
                first | exact ih (k + 1) _ (by omega) hz9 h | contradiction
  have key189 : ∀ M1 : zSg, zk M M1 → mT_run f M1 = some M2 → zV G X 3 0 0 (fun x => n ≤ x) ly τ (zwr σ o 103 M1) 189 [some (.ref o), none, none, none, none, none, none, none, none] [] := by
    intro M1 hM1 h
    refine zr_iconst (v := 0) hO dX7_tickOnce_189 (by decide) ?_
    refine zr_istore_1 hO dX7_tickOnce_190 (by decide) rfl ?_
    rw [← nI_0]
    exact key191 (ix (M 0 6)) 0 M1 (by omega) hM1 (by rw [← hM1.2 0 6 rfl]; exact h)
  have key167 : ∀ M1 : zSg, zk M M1 → mT_run f (mT_fill M1) = some M2 → zV G X 3 0 0 (fun x => n ≤ x) ly τ (zwr σ o 103 M1) 167 [some (.ref o), none, none, none, none, none, none, none, none] [] := by
    intro M1 hM1 h
    refine zr_iconst (v := 0) hO dX7_tickOnce_167 (by decide) ?_
    refine zr_istore_1 hO dX7_tickOnce_168 (by decide) rfl ?_
    refine z_for (P := fun k s => zV G X 3 0 0 (fun x => n ≤ x) ly τ (zwr σ o 103 s) 169 [some (.ref o), some (.int (nI k)), none, none, none, none, none, none, none] []) 3 (fun i s => zup s (71 + ix 0) i (-1)) (fun _ s => zk M s) M1 hM1 (fun i s hi h => zk_ran h (f := 71) (by decide) _ _) ?_ ?_
    · intro k s hk hIk ih
      refine zr_iload_1 hO dX7_tickOnce_169 ?_
      refine zr_iconst (v := 3) hO dX7_tickOnce_170 (by decide) ?_
      refine zr_icmp_ge (tgt := 189) hO dX7_tickOnce_171 (by decide) (fun c171 => ?_) (fun c171 => ?_)
      · exact absurd (zlt_T (x := 3) (by decide) hk) c171
      · refine zr_aload_0 hO dX7_tickOnce_174 ?_
        refine zr_getfr (c := 7) hO (by decide) (by decide) zf_X7_85 (zM_0 hM) rfl rfl dX7_tickOnce_175 ?_
        refine zr_iconst (v := 0) hO dX7_tickOnce_178 (by decide) ?_
        refine zr_aaldIx hO (zM_70 hM) (zin_i ⟨by decide, by decide⟩) dX7_tickOnce_179 (fun hx179_13 => ?_)
        refine zr_iload_1 hO dX7_tickOnce_180 ?_
        refine zr_iconst (v := (-1)) hO dX7_tickOnce_181 (by decide) ?_
        refine zg_iastN hO (zM_ran hM hx179_13) (by have := hx179_13; omega) (by omega) (by decide) dX7_tickOnce_182 ?_
        refine zV_pc (pc' := 183) rfl ?_
        refine zr_iinc_1 (v := 1) hO dX7_tickOnce_183 (by decide) (by decide) rfl ?_
        refine zr_goto (tgt := 169) hO dX7_tickOnce_186 (by decide) ?_
        rw [nI_1]
        exact ih
    · intro hIk
      refine zr_iload_1 hO dX7_tickOnce_169 ?_
      refine zr_iconst (v := 3) hO dX7_tickOnce_170 (by decide) ?_
      refine zr_icmp_ge (tgt := 189) hO dX7_tickOnce_171 (by decide) (fun c171 => ?_) (fun c171 => ?_)
      · refine zV_d1 ?_
        exact key189 _ (zk_fill hM1) h
      · exact absurd c171 (zlt_F (x := 3) (by decide))
  have key137 : ∀ (j : Nat) (M1 : zSg), j ≤ 29 → zk M M1 → mT_run f (mT_fill (mF_sh j M1)) = some M2 → zV G X 3 0 0 (fun x => n ≤ x) ly τ (zwr σ o 103 M1) 137 [some (.ref o), some (.int (nI j)), none, none, none, none, none, none, none] [] := by
    intro j
    induction j with
    | zero =>
      intro M1 _ hM1 h
      refine zr_iload_1 hO dX7_tickOnce_137 ?_
      refine zr_if_le (tgt := 167) hO dX7_tickOnce_138 (by decide) (fun c138 => ?_) (fun c138 => ?_)
      · refine zV_d1 ?_
        exact key167 M1 hM1 h
      · exact absurd c138 (by decide)
    | succ j ih =>
      intro M1 hj hM1 h
      refine zr_iload_1 hO dX7_tickOnce_137 ?_
      refine zr_if_le (tgt := 167) hO dX7_tickOnce_138 (by decide) (fun c138 => absurd (show (0 : Int32) < nI (j + 1) by rw [Int32.lt_iff_toInt_lt, nI_toInt (by omega), show (0 : Int32).toInt = 0 from rfl]; omega) c138) (fun c138 => ?_)
      refine zr_aload_0 hO dX7_tickOnce_141 ?_
      refine zr_getfr (c := 7) hO (by decide) (by decide) zf_X7_85 (zM_0 hM) rfl rfl dX7_tickOnce_142 ?_
      refine zr_iload_1 hO dX7_tickOnce_145 ?_
      refine zr_iconst (v := 1) hO dX7_tickOnce_146 (by decide) ?_
      refine zr_isub hO dX7_tickOnce_147 ?_
      rw [nI_m1]
      refine zr_aaldIN hO (zM_70 hM) (by omega) (by decide) dX7_tickOnce_148 ?_
      refine zr_iconst (v := 0) hO dX7_tickOnce_149 (by decide) ?_
      refine zr_aload_0 hO dX7_tickOnce_150 ?_
      refine zr_getfr (c := 7) hO (by decide) (by decide) zf_X7_85 (zM_0 hM) rfl rfl dX7_tickOnce_151 ?_
      refine zr_iload_1 hO dX7_tickOnce_154 ?_
      refine zr_aaldIN hO (zM_70 hM) (by omega) (by decide) dX7_tickOnce_155 ?_
      refine zr_iconst (v := 0) hO dX7_tickOnce_156 (by decide) ?_
      refine zr_iconst (v := 3) hO dX7_tickOnce_157 (by decide) ?_
      refine zr_copy (D := d) hO (by omega) hRm zl_X7_114 (zM_ran hM (by omega)) (zM_ran hM (by omega)) (by decide) (by decide) (by decide) (by decide) (by decide) (Nat.le_of_ble_eq_true rfl) dX7_tickOnce_158 ?_
      rw [zwr_cpy σ M1 (show 71 + j < 103 by omega) (show 71 + (j + 1) < 103 by omega)]
      refine zr_iinc_1 (v := (-1)) hO dX7_tickOnce_161 (by decide) (by decide) rfl ?_
      refine zr_goto (tgt := 137) hO dX7_tickOnce_164 (by decide) ?_
      rw [nI_m2]
      exact ih _ (by omega) (zk_cpyr hM1 (by omega)) h
  have key134 : ∀ M1 : zSg, zk M M1 → mT_run f (mT_fill (mF_sh 29 M1)) = some M2 → zV G X 3 0 0 (fun x => n ≤ x) ly τ (zwr σ o 103 M1) 134 [some (.ref o), none, none, none, none, none, none, none, none] [] := by
    intro M1 hM1 h
    refine zr_bipush (v := 29) hO dX7_tickOnce_134 (by decide) ?_
    refine zr_istore_1 hO dX7_tickOnce_136 (by decide) rfl ?_
    exact key137 29 M1 (by decide) hM1 h
  have key126 : ∀ M1 : zSg, zk M M1 → (mF_take f (mF_expire M1)).bind (fun M3 => mT_run f (mT_fill (mF_sh 29 M3))) = some M2 → zV G X 3 3 23 (fun x => n ≤ x) ly τ (zwr σ o 103 M1) 126 [some (.ref o), none, none, none, none, none, none, none, none] [] := by
    intro M1 hM1 h
    refine zr_aload_0 hO dX7_tickOnce_126 ?_
    refine zr_V0 (D := d) hO hRm hL (by omega) (by decide) (c := 7) (by decide) (zM_0 hM) rfl rfl (e_X7_expire (d := d - 1) htr hM (by omega) hM1.1) zl_X7_199 zi_X7_expire zs_X7_expire zc_X7_expire zn_X7 zd_X7_expire (Nat.le_of_ble_eq_true rfl) dX7_tickOnce_127 (by omega) (by omega) ?_
    refine zr_aload_0 hO dX7_tickOnce_130 ?_
    rcases htk : mF_tk (mF_expire M1) (mF_left (mF_expire M1)).1 f (mF_left (mF_expire M1)).2 0 (mF_expire M1 2) (fun _ => 0) with _ | ⟨c, T⟩
    · rw [show mF_take f (mF_expire M1) = none from by unfold mF_take; rw [htk]] at h; cases h
    by_cases hgk : ¬ mF_gok T c (mF_keep T c (mF_expire M1)) = true
    · rw [show mF_take f (mF_expire M1) = none from by unfold mF_take; rw [htk]; exact if_neg hgk] at h; cases h
    replace hgk := Decidable.not_not.mp hgk
    have htk2 : mF_take f (mF_expire M1) = some (mF_gives T c (mF_keep T c (mF_expire M1))) := by unfold mF_take; rw [htk]; exact if_pos hgk
    rw [htk2] at h
    refine zr_V0 (D := d) hO hRm hL (by omega) (by decide) (c := 7) (by decide) (zM_0 hM) rfl rfl (e_X7_take (d := d - 1) htr hM (by omega) (zk_expire hM1).1 hon hz htk (mF_gok_of hgk)) zl_X7_202 zi_X7_take zs_X7_take zc_X7_take zn_X7 zd_X7_take (Nat.le_of_ble_eq_true rfl) dX7_tickOnce_131 (by omega) (by omega) ?_
    exact key134 _ (zk_take (zk_expire hM1) htk2) h
  have key82 : ∀ M1 : zSg, zk M M1 → (mF_take f (mF_expire (mT_c M1))).bind (fun M3 => mT_run f (mT_fill (mF_sh 29 M3))) = some M2 → zV G X 3 3 23 (fun x => n ≤ x) ly τ (zwr σ o 103 M1) 82 [some (.ref o), none, none, none, none, none, none, none, none] [] := by
    intro M1 hM1 h
    refine zr_iconst (v := 0) hO dX7_tickOnce_82 (by decide) ?_
    refine zr_istore_1 hO dX7_tickOnce_83 (by decide) rfl ?_
    refine z_for (P := fun k s => zV G X 3 3 23 (fun x => n ≤ x) ly τ (zwr σ o 103 s) 84 [some (.ref o), some (.int (nI k)), none, none, none, none, none, none, none] []) (ix (M1 0 15)) mB_wk (fun _ s => zk M s) M1 hM1 (fun i s hi h => zk_wk1 h i) ?_ ?_
    · intro k s hk hIk ih
      have hk16 : k < 16 := by have := zmW_n16 hM1.1; omega
      refine zr_iload_1 hO dX7_tickOnce_84 ?_
      refine zr_aload_0 hO dX7_tickOnce_85 ?_
      refine zg_getfi0 (c := 7) hO (zM_0 hM) (by decide) (by decide) (by decide) zf_X7_110 rfl dX7_tickOnce_86 ?_
      refine zr_icmp_ge (tgt := 126) hO dX7_tickOnce_89 (by decide) (fun c89 => ?_) (fun c89 => ?_)
      · exact absurd (by rw [hIk.2 0 15 rfl, ← hM1.2 0 15 rfl]; exact zlt_T (zmW_n hM1.1) hk) c89
      · refine zr_aload_0 hO dX7_tickOnce_92 ?_
        refine zr_getfr (c := 7) hO (by decide) (by decide) zf_X7_46 (zM_0 hM) rfl rfl dX7_tickOnce_93 ?_
        refine zr_iload_1 hO dX7_tickOnce_96 ?_
        refine zg_ialdN hO (zM_41 hM) (by decide) (by omega) (by decide) dX7_tickOnce_97 ?_
        refine zr_iconst (v := 3) hO dX7_tickOnce_98 (by decide) ?_
        refine zr_icmp_ne (tgt := 120) hO dX7_tickOnce_99 (by decide) (fun c99 => ?_) (fun c99 => ?_)
        · refine zr_iinc_1 (v := 1) hO dX7_tickOnce_120 (by decide) (by decide) rfl ?_
          refine zr_goto (tgt := 84) hO dX7_tickOnce_123 (by decide) ?_
          rw [nI_1]
          simp only [mB_wk, if_pos c89, if_neg c99] at ih
          first | exact ih | contradiction
        · refine zr_aload_0 hO dX7_tickOnce_102 ?_
          refine zr_getfr (c := 7) hO (by decide) (by decide) zf_X7_67 (zM_0 hM) rfl rfl dX7_tickOnce_103 ?_
          refine zr_iload_1 hO dX7_tickOnce_106 ?_
          refine zg_ialdN hO (zM_48 hM) (by decide) (by omega) (by decide) dX7_tickOnce_107 ?_
          refine zr_aload_0 hO dX7_tickOnce_108 ?_
          refine zg_getfi0 (c := 7) hO (zM_0 hM) (by decide) (by decide) (by decide) zf_X7_95 rfl dX7_tickOnce_109 ?_
          refine zr_icmp_gt (tgt := 120) hO dX7_tickOnce_112 (by decide) (fun c112 => ?_) (fun c112 => ?_)
          · refine zr_iinc_1 (v := 1) hO dX7_tickOnce_120 (by decide) (by decide) rfl ?_
            refine zr_goto (tgt := 84) hO dX7_tickOnce_123 (by decide) ?_
            rw [nI_1]
            simp only [mB_wk, if_pos c89, if_pos c99, if_pos c112] at ih
            first | exact ih | contradiction
          · refine zr_aload_0 hO dX7_tickOnce_115 ?_
            refine zr_iload_1 hO dX7_tickOnce_116 ?_
            refine zr_V1 (D := d) hO hRm hL (by omega) (by decide) (c := 7) (by decide) (zM_0 hM) rfl rfl (e_X7_wake (d := d - 1) htr hM (by omega) hIk.1 (vp_in_nI hk16 (by decide))) zl_X7_156 zi_X7_wake zs_X7_wake zc_X7_wake zn_X7 zd_X7_wake (Nat.le_of_ble_eq_true rfl) dX7_tickOnce_117 (by omega) (by omega) ?_
            refine zr_iinc_1 (v := 1) hO dX7_tickOnce_120 (by decide) (by decide) rfl ?_
            refine zr_goto (tgt := 84) hO dX7_tickOnce_123 (by decide) ?_
            rw [nI_1]
            simp only [mB_wk, if_pos c89, if_pos c99, if_neg c112] at ih
            first | exact ih | contradiction
    · intro hIk
      refine zr_iload_1 hO dX7_tickOnce_84 ?_
      refine zr_aload_0 hO dX7_tickOnce_85 ?_
      refine zg_getfi0 (c := 7) hO (zM_0 hM) (by decide) (by decide) (by decide) zf_X7_110 rfl dX7_tickOnce_86 ?_
      refine zr_icmp_ge (tgt := 126) hO dX7_tickOnce_89 (by decide) (fun c89 => ?_) (fun c89 => ?_)
      · refine zV_d1 ?_
        exact key126 _ (zk_tc hM1) h
      · exact absurd c89 (by rw [hIk.2 0 15 rfl, ← hM1.2 0 15 rfl]; exact zlt_F (zmW_n hM1.1))
  have key32 : ∀ M1 : zSg, zk M M1 → (mF_take f (mF_expire (mT_c (mT_b M1)))).bind (fun M3 => mT_run f (mT_fill (mF_sh 29 M3))) = some M2 → zV G X 3 3 23 (fun x => n ≤ x) ly τ (zwr σ o 103 M1) 32 [some (.ref o), none, none, none, none, none, none, none, none] [] := by
    intro M1 hM1 h
    by_cases hc : M1 0 2 = 1 ∧ 0 < M1 0 4 ∧ M1 0 1 - M1 0 1 / M1 0 4 * M1 0 4 = 0
    · rw [show mT_b M1 = (List.range (ix (M1 0 15))).foldl (fun s i => zup s 46 i 0) M1 from by unfold mT_b; rw [if_pos hc.1, if_pos hc.2.1, if_pos hc.2.2]] at h
      refine zr_iconst (v := 0) hO dX7_tickOnce_32 (by decide) ?_
      refine zr_istore_1 hO dX7_tickOnce_33 (by decide) rfl ?_
      refine z_for (P := fun k s => zV G X 3 3 23 (fun x => n ≤ x) ly τ (zwr σ o 103 s) 34 [some (.ref o), some (.int (nI k)), none, none, none, none, none, none, none] []) (ix (M1 0 15)) (fun i s => zup s 46 i 0) (fun _ s => zk M s ∧ s 0 1 = M1 0 1 ∧ s 0 2 = M1 0 2 ∧ s 0 4 = M1 0 4) M1 ⟨hM1, rfl, rfl, rfl⟩ (fun i s hi h => ⟨zk_up h.1 (f := 46) (by rfl) (show zr1 0 0 3 from ⟨by decide, by decide⟩), h.2.1, h.2.2.1, h.2.2.2⟩) ?_ ?_
      · intro k s hk hIk ih
        have hk16 : k < 16 := by have := zmW_n16 hM1.1; omega
        refine zr_iload_1 hO dX7_tickOnce_34 ?_
        refine zr_aload_0 hO dX7_tickOnce_35 ?_
        refine zg_getfi0 (c := 7) hO (zM_0 hM) (by decide) (by decide) (by decide) zf_X7_110 rfl dX7_tickOnce_36 ?_
        refine zr_icmp_ge (tgt := 82) hO dX7_tickOnce_39 (by decide) (fun c39 => ?_) (fun c39 => ?_)
        · exact absurd (by rw [hIk.1.2 0 15 rfl, ← hM1.2 0 15 rfl]; exact zlt_T (zmW_n hM1.1) hk) c39
        · refine zr_aload_0 hO dX7_tickOnce_42 ?_
          refine zg_getfi0 (c := 7) hO (zM_0 hM) (by decide) (by decide) (by decide) zf_X7_98 rfl dX7_tickOnce_43 ?_
          refine zr_iconst (v := 1) hO dX7_tickOnce_46 (by decide) ?_
          refine zr_icmp_ne (tgt := 82) hO dX7_tickOnce_47 (by decide) (fun c47 => ?_) (fun c47 => ?_)
          · exact absurd (by rw [hIk.2.2.1]; exact hc.1) c47
          · refine zr_aload_0 hO dX7_tickOnce_50 ?_
            refine zg_getfi0 (c := 7) hO (zM_0 hM) (by decide) (by decide) (by decide) zf_X7_101 rfl dX7_tickOnce_51 ?_
            refine zr_if_le (tgt := 82) hO dX7_tickOnce_54 (by decide) (fun c54 => ?_) (fun c54 => ?_)
            · exact absurd (by rw [hIk.2.2.2]; exact hc.2.1) c54
            · refine zr_aload_0 hO dX7_tickOnce_57 ?_
              refine zg_getfi0 (c := 7) hO (zM_0 hM) (by decide) (by decide) (by decide) zf_X7_95 rfl dX7_tickOnce_58 ?_
              refine zr_aload_0 hO dX7_tickOnce_61 ?_
              refine zg_getfi0 (c := 7) hO (zM_0 hM) (by decide) (by decide) (by decide) zf_X7_101 rfl dX7_tickOnce_62 ?_
              refine zr_irem hO dX7_tickOnce_65 (by first | assumption | exact (fun hz0 => absurd (show (0 : Int32) < 0 from hz0 ▸ c54) (by decide))) ?_
              refine zr_if_ne (tgt := 82) hO dX7_tickOnce_66 (by decide) (fun c66 => ?_) (fun c66 => ?_)
              · exact absurd (by rw [hIk.2.2.2, hIk.2.1]; exact hc.2.2) c66
              · refine zr_aload_0 hO dX7_tickOnce_69 ?_
                refine zr_getfr (c := 7) hO (by decide) (by decide) zf_X7_61 (zM_0 hM) rfl rfl dX7_tickOnce_70 ?_
                refine zr_iload_1 hO dX7_tickOnce_73 ?_
                refine zr_iconst (v := 0) hO dX7_tickOnce_74 (by decide) ?_
                refine zg_iastN hO (zM_46 hM) (by decide) (by omega) (by decide) dX7_tickOnce_75 ?_
                refine zr_iinc_1 (v := 1) hO dX7_tickOnce_76 (by decide) (by decide) rfl ?_
                refine zr_goto (tgt := 34) hO dX7_tickOnce_79 (by decide) ?_
                rw [nI_1]
                exact ih
      · intro hIk
        refine zr_iload_1 hO dX7_tickOnce_34 ?_
        refine zr_aload_0 hO dX7_tickOnce_35 ?_
        refine zg_getfi0 (c := 7) hO (zM_0 hM) (by decide) (by decide) (by decide) zf_X7_110 rfl dX7_tickOnce_36 ?_
        refine zr_icmp_ge (tgt := 82) hO dX7_tickOnce_39 (by decide) (fun c39 => ?_) (fun c39 => ?_)
        · refine zV_d1 ?_
          exact key82 _ hIk.1 h
        · exact absurd c39 (by rw [hIk.1.2 0 15 rfl, ← hM1.2 0 15 rfl]; exact zlt_F (zmW_n hM1.1))
    · rw [show mT_b M1 = M1 from by unfold mT_b; (repeat' split); all_goals first | rfl | exact absurd ⟨by assumption, by assumption, by assumption⟩ hc] at h
      refine zr_iconst (v := 0) hO dX7_tickOnce_32 (by decide) ?_
      refine zr_istore_1 hO dX7_tickOnce_33 (by decide) rfl ?_
      refine zr_iload_1 hO dX7_tickOnce_34 ?_
      refine zr_aload_0 hO dX7_tickOnce_35 ?_
      refine zg_getfi0 (c := 7) hO (zM_0 hM) (by decide) (by decide) (by decide) zf_X7_110 rfl dX7_tickOnce_36 ?_
      refine zr_icmp_ge (tgt := 82) hO dX7_tickOnce_39 (by decide) (fun c39 => ?_) (fun c39 => ?_)
      · refine zV_d1 ?_
        exact key82 _ hM1 h
      · refine zr_aload_0 hO dX7_tickOnce_42 ?_
        refine zg_getfi0 (c := 7) hO (zM_0 hM) (by decide) (by decide) (by decide) zf_X7_98 rfl dX7_tickOnce_43 ?_
        refine zr_iconst (v := 1) hO dX7_tickOnce_46 (by decide) ?_
        refine zr_icmp_ne (tgt := 82) hO dX7_tickOnce_47 (by decide) (fun c47 => ?_) (fun c47 => ?_)
        · refine zV_d1 ?_
          exact key82 _ hM1 h
        · refine zr_aload_0 hO dX7_tickOnce_50 ?_
          refine zg_getfi0 (c := 7) hO (zM_0 hM) (by decide) (by decide) (by decide) zf_X7_101 rfl dX7_tickOnce_51 ?_
          refine zr_if_le (tgt := 82) hO dX7_tickOnce_54 (by decide) (fun c54 => ?_) (fun c54 => ?_)
          · refine zV_d1 ?_
            exact key82 _ hM1 h
          · refine zr_aload_0 hO dX7_tickOnce_57 ?_
            refine zg_getfi0 (c := 7) hO (zM_0 hM) (by decide) (by decide) (by decide) zf_X7_95 rfl dX7_tickOnce_58 ?_
            refine zr_aload_0 hO dX7_tickOnce_61 ?_
            refine zg_getfi0 (c := 7) hO (zM_0 hM) (by decide) (by decide) (by decide) zf_X7_101 rfl dX7_tickOnce_62 ?_
            refine zr_irem hO dX7_tickOnce_65 (by first | assumption | exact (fun hz0 => absurd (show (0 : Int32) < 0 from hz0 ▸ c54) (by decide))) ?_
            refine zr_if_ne (tgt := 82) hO dX7_tickOnce_66 (by decide) (fun c66 => ?_) (fun c66 => ?_)
            · refine zV_d1 ?_
              exact key82 _ hM1 h
            · exact absurd ⟨c47, c54, c66⟩ hc
  have hp5 : ∀ s : zSg, zk M s → ¬ s 0 5 = 0 := fun s hs h0 => absurd (show 1 ≤ (s 0 5).toInt from (hs.1 0 5).1) (by rw [h0]; decide)
  unfold mF_tick at ht
  by_cases hc : M 0 1 - M 0 1 / M 0 5 * M 0 5 = 0
  · rw [show mT_a M = (List.range 4).foldl (fun s i => zup s 2 i 0) M from by unfold mT_a; rw [if_pos hc]] at ht
    refine zr_iconst (v := 0) hO dX7_tickOnce_0 (by decide) ?_
    refine zr_istore_1 hO dX7_tickOnce_1 (by decide) rfl ?_
    refine z_for (P := fun k s => zV G X 3 3 23 (fun x => n ≤ x) ly τ (zwr σ o 103 s) 2 [some (.ref o), some (.int (nI k)), none, none, none, none, none, none, none] []) 4 (fun i s => zup s 2 i 0) (fun _ s => zk M s ∧ s 0 1 = M 0 1) M ⟨zk_r hW, rfl⟩ (fun i s hi h => ⟨zk_up h.1 (f := 2) (by rfl) (zr_any _), h.2⟩) ?_ ?_
    · intro k s hk hIk ih
      refine zr_iload_1 hO dX7_tickOnce_2 ?_
      refine zr_iconst (v := 4) hO dX7_tickOnce_3 (by decide) ?_
      refine zr_icmp_ge (tgt := 32) hO dX7_tickOnce_4 (by decide) (fun c4 => ?_) (fun c4 => ?_)
      · exact absurd (zlt_T (x := 4) (by decide) hk) c4
      · refine zr_aload_0 hO dX7_tickOnce_7 ?_
        refine zg_getfi0 (c := 7) hO (zM_0 hM) (by decide) (by decide) (by decide) zf_X7_95 rfl dX7_tickOnce_8 ?_
        refine zr_aload_0 hO dX7_tickOnce_11 ?_
        refine zg_getfi0 (c := 7) hO (zM_0 hM) (by decide) (by decide) (by decide) zf_X7_13 rfl dX7_tickOnce_12 ?_
        refine zr_irem hO dX7_tickOnce_15 (by first | assumption | exact hp5 _ hIk.1 | exact hp5 _ (zk_r hW)) ?_
        refine zr_if_ne (tgt := 32) hO dX7_tickOnce_16 (by decide) (fun c16 => ?_) (fun c16 => ?_)
        · exact absurd (by rw [hIk.2, hIk.1.2 0 5 rfl]; exact hc) c16
        · refine zr_aload_0 hO dX7_tickOnce_19 ?_
          refine zr_getfr (c := 7) hO (by decide) (by decide) zf_X7_23 (zM_0 hM) rfl rfl dX7_tickOnce_20 ?_
          refine zr_iload_1 hO dX7_tickOnce_23 ?_
          refine zr_iconst (v := 0) hO dX7_tickOnce_24 (by decide) ?_
          refine zg_iastN hO (zM_2 hM) (by decide) (by omega) (by decide) dX7_tickOnce_25 ?_
          refine zr_iinc_1 (v := 1) hO dX7_tickOnce_26 (by decide) (by decide) rfl ?_
          refine zr_goto (tgt := 2) hO dX7_tickOnce_29 (by decide) ?_
          rw [nI_1]
          exact ih
    · intro hIk
      refine zr_iload_1 hO dX7_tickOnce_2 ?_
      refine zr_iconst (v := 4) hO dX7_tickOnce_3 (by decide) ?_
      refine zr_icmp_ge (tgt := 32) hO dX7_tickOnce_4 (by decide) (fun c4 => ?_) (fun c4 => ?_)
      · refine zV_d1 ?_
        exact key32 _ hIk.1 ht
      · exact absurd c4 (zlt_F (x := 4) (by decide))
  · rw [show mT_a M = M from by unfold mT_a; rw [if_neg hc]] at ht
    refine zr_iconst (v := 0) hO dX7_tickOnce_0 (by decide) ?_
    refine zr_istore_1 hO dX7_tickOnce_1 (by decide) rfl ?_
    refine zr_iload_1 hO dX7_tickOnce_2 ?_
    refine zr_iconst (v := 4) hO dX7_tickOnce_3 (by decide) ?_
    refine zr_icmp_ge (tgt := 32) hO dX7_tickOnce_4 (by decide) (fun c4 => ?_) (fun c4 => ?_)
    · refine zV_d1 ?_
      exact key32 _ (zk_r hW) ht
    · refine zr_aload_0 hO dX7_tickOnce_7 ?_
      refine zg_getfi0 (c := 7) hO (zM_0 hM) (by decide) (by decide) (by decide) zf_X7_95 rfl dX7_tickOnce_8 ?_
      refine zr_aload_0 hO dX7_tickOnce_11 ?_
      refine zg_getfi0 (c := 7) hO (zM_0 hM) (by decide) (by decide) (by decide) zf_X7_13 rfl dX7_tickOnce_12 ?_
      refine zr_irem hO dX7_tickOnce_15 (by first | assumption | exact hp5 _ hIk.1 | exact hp5 _ (zk_r hW)) ?_
      refine zr_if_ne (tgt := 32) hO dX7_tickOnce_16 (by decide) (fun c16 => ?_) (fun c16 => ?_)
      · refine zV_d1 ?_
        exact key32 _ (zk_r hW) ht
      · exact absurd c16 hc
