set_option maxRecDepth 100000 in
set_option maxHeartbeats 4000000 in
theorem e_X7_digest {l : Launch} {G : zGm} {d n o : Nat} {ly : zLy} {τ : zTu} {σ M : zSg}  (htr : l.stackTraces = false) (hM : zM ly o) (hd : 3 ≤ d) (hW : zmW M) (hB : zBl M) (hon : o + 103 ≤ n) (hz : ∀ a, n ≤ a → (ly a).1 = 0) :
    zEv l G d 17 118 (yX7_digest, cX7_digest, 8, some .long) [.ref o] (fun x => n ≤ x) ly τ (zwr σ o 103 M) (zPl n ly (zupL τ o 38 (mF_digest (zup M 0 0 0))) (zwr σ o 103 (zup M 0 0 0)) (some (.long (mF_digest (zup M 0 0 0))))) := by
  refine zEv_of (ls := [some (.ref o), none, none, none, none, none, none, none, none]) htr (by decide) (Nat.le_of_ble_eq_true rfl) rfl (fun X hO hE hN hRm hL hNm => ?_)
  have hO : zOk G X RX7 cX7_digest 8 := hO
  have hW0 := zmW_0 hW
  have hB0 : zBl (zup M 0 0 0) := hB
  have hn16 := zmW_n16 hW0
  have hp3 := zmW_p3 hW0
  have key371 : ∀ s : Int64, (List.range 6).foldl (fun s i => mD_event (zup M 0 0 0) i s) s = mF_digest (zup M 0 0 0) → zV G X 8 (0) (0) (fun x => n ≤ x) ly (zupL τ o 38 s) (zwr σ o 103 (zup M 0 0 0)) 371 [some (.ref o), none, none, none, none, none, none, none, none] [] := by
    intro s he
    refine zr_iconst (v := 0) hO dX7_digest_371 (by decide) ?_
    refine zr_istore_2 hO dX7_digest_372 (by decide) rfl ?_
    rw [← nI_0]
    refine z_for (P := fun k s => zV G X 8 (0) (0) (fun x => n ≤ x) ly (zupL τ o 38 s) (zwr σ o 103 (zup M 0 0 0)) 373 [some (.ref o), none, some (.int (nI k)), none, none, none, none, none, none] []) 6 (mD_event (zup M 0 0 0)) (fun _ _ => True) s trivial (fun _ _ _ _ => trivial) ?_ ?_
    · intro k s hk _ ih
      refine zr_iload_2 hO dX7_digest_373 ?_
      refine zr_bipush (v := 6) hO dX7_digest_374 (by decide) ?_
      refine zr_icmp_ge (tgt := 405) hO dX7_digest_376 (by decide) (fun c => absurd (zlt_T (x := 6) (by decide) hk) c) (fun c9 => ?_)
      refine zr_aload_0 hO dX7_digest_379 ?_
      refine zr_aload_0 hO dX7_digest_380 ?_
      refine zr_getfr (c := 7) hO (by decide) (by decide) zf_X7_91 (zM_0 hM) rfl rfl dX7_digest_381 ?_
      refine zr_iload_2 hO dX7_digest_384 ?_
      refine zg_ialdN hO (zM_102 hM) (by decide) hk (by decide) dX7_digest_385 ?_
      refine zr_V1 (D := d) hO hRm hL (by omega) (by decide) (c := 7) (by decide) (zM_0 hM) rfl rfl (e_X7_add (d := d - 1) htr hM) zl_X7_260 zi_X7_add zs_X7_add zc_X7_add zn_X7 zd_X7_add (Nat.le_of_ble_eq_true rfl) dX7_digest_386 (by omega) (by omega) ?_
      rw [zupL_zupL, zupL_at]
      refine zr_aload_0 hO dX7_digest_389 ?_
      refine zr_aload_0 hO dX7_digest_390 ?_
      refine zr_iconst (v := 5) hO dX7_digest_391 (by decide) ?_
      refine zr_iload_2 hO dX7_digest_392 ?_
      refine zr_V2 (D := d) hO hRm hL (by omega) (by decide) (c := 7) (by decide) (zM_0 hM) rfl rfl (e_X7_those (d := d - 1) htr hM (by omega) hW0) zl_X7_237 zi_X7_those zs_X7_those zc_X7_those zn_X7 zd_X7_those (Nat.le_of_ble_eq_true rfl) dX7_digest_393 (by omega) (by omega) ?_
      refine zr_V1 (D := d) hO hRm hL (by omega) (by decide) (c := 7) (by decide) (zM_0 hM) rfl rfl (e_X7_add (d := d - 1) htr hM) zl_X7_260 zi_X7_add zs_X7_add zc_X7_add zn_X7 zd_X7_add (Nat.le_of_ble_eq_true rfl) dX7_digest_396 (by omega) (by omega) ?_
      rw [zupL_zupL, zupL_at]
      refine zr_iinc_2 (v := 1) hO dX7_digest_399 (by decide) (by decide) rfl ?_
      refine zr_goto (tgt := 373) hO dX7_digest_402 (by decide) ?_
      rw [nI_1]
      exact ih
    · intro _
      refine zr_iload_2 hO dX7_digest_373 ?_
      refine zr_bipush (v := 6) hO dX7_digest_374 (by decide) ?_
      refine zr_icmp_ge (tgt := 405) hO dX7_digest_376 (by decide) (fun c9 => ?_) (fun c => absurd c (zlt_F (x := 6) (by decide)))
      refine zV_d2 ?_
      refine zr_aload_0 hO dX7_digest_405 ?_
      refine zr_getfl (c := 7) hO (by decide) (by decide) zf_X7_252 (zM_0 hM) rfl dX7_digest_406 ?_
      rw [zupL_at]
      rw [show List.foldl (fun s i => mD_event (zup M 0 0 0) i s) s (List.range 6) = mF_digest (zup M 0 0 0) from he]
      exact zr_lreturn hO hE dX7_digest_409 (fun z hz9 => ⟨rfl, hz9, rfl, rfl, rfl⟩)
  have key337 : ∀ s : Int64, (List.range 6).foldl (fun s i => mD_event (zup M 0 0 0) i s) ((List.range 6).foldl (fun s i => mD_lock (zup M 0 0 0) i s) s) = mF_digest (zup M 0 0 0) → zV G X 8 (0) (0) (fun x => n ≤ x) ly (zupL τ o 38 s) (zwr σ o 103 (zup M 0 0 0)) 337 [some (.ref o), none, none, none, none, none, none, none, none] [] := by
    intro s he
    refine zr_iconst (v := 0) hO dX7_digest_337 (by decide) ?_
    refine zr_istore_2 hO dX7_digest_338 (by decide) rfl ?_
    rw [← nI_0]
    refine z_for (P := fun k s => zV G X 8 (0) (0) (fun x => n ≤ x) ly (zupL τ o 38 s) (zwr σ o 103 (zup M 0 0 0)) 339 [some (.ref o), none, some (.int (nI k)), none, none, none, none, none, none] []) 6 (mD_lock (zup M 0 0 0)) (fun _ _ => True) s trivial (fun _ _ _ _ => trivial) ?_ ?_
    · intro k s hk _ ih
      refine zr_iload_2 hO dX7_digest_339 ?_
      refine zr_bipush (v := 6) hO dX7_digest_340 (by decide) ?_
      refine zr_icmp_ge (tgt := 371) hO dX7_digest_342 (by decide) (fun c => absurd (zlt_T (x := 6) (by decide) hk) c) (fun c9 => ?_)
      refine zr_aload_0 hO dX7_digest_345 ?_
      refine zr_aload_0 hO dX7_digest_346 ?_
      refine zr_getfr (c := 7) hO (by decide) (by decide) zf_X7_88 (zM_0 hM) rfl rfl dX7_digest_347 ?_
      refine zr_iload_2 hO dX7_digest_350 ?_
      refine zg_ialdN hO (zM_101 hM) (by decide) hk (by decide) dX7_digest_351 ?_
      refine zr_V1 (D := d) hO hRm hL (by omega) (by decide) (c := 7) (by decide) (zM_0 hM) rfl rfl (e_X7_add (d := d - 1) htr hM) zl_X7_260 zi_X7_add zs_X7_add zc_X7_add zn_X7 zd_X7_add (Nat.le_of_ble_eq_true rfl) dX7_digest_352 (by omega) (by omega) ?_
      rw [zupL_zupL, zupL_at]
      refine zr_aload_0 hO dX7_digest_355 ?_
      refine zr_aload_0 hO dX7_digest_356 ?_
      refine zr_iconst (v := 4) hO dX7_digest_357 (by decide) ?_
      refine zr_iload_2 hO dX7_digest_358 ?_
      refine zr_V2 (D := d) hO hRm hL (by omega) (by decide) (c := 7) (by decide) (zM_0 hM) rfl rfl (e_X7_those (d := d - 1) htr hM (by omega) hW0) zl_X7_237 zi_X7_those zs_X7_those zc_X7_those zn_X7 zd_X7_those (Nat.le_of_ble_eq_true rfl) dX7_digest_359 (by omega) (by omega) ?_
      refine zr_V1 (D := d) hO hRm hL (by omega) (by decide) (c := 7) (by decide) (zM_0 hM) rfl rfl (e_X7_add (d := d - 1) htr hM) zl_X7_260 zi_X7_add zs_X7_add zc_X7_add zn_X7 zd_X7_add (Nat.le_of_ble_eq_true rfl) dX7_digest_362 (by omega) (by omega) ?_
      rw [zupL_zupL, zupL_at]
      refine zr_iinc_2 (v := 1) hO dX7_digest_365 (by decide) (by decide) rfl ?_
      refine zr_goto (tgt := 339) hO dX7_digest_368 (by decide) ?_
      rw [nI_1]
      exact ih
    · intro _
      refine zr_iload_2 hO dX7_digest_339 ?_
      refine zr_bipush (v := 6) hO dX7_digest_340 (by decide) ?_
      refine zr_icmp_ge (tgt := 371) hO dX7_digest_342 (by decide) (fun c9 => ?_) (fun c => absurd c (zlt_F (x := 6) (by decide)))
      refine zV_d2 ?_
      exact key371 _ he
  have key302 : ∀ s : Int64, (List.range 6).foldl (fun s i => mD_event (zup M 0 0 0) i s) ((List.range 6).foldl (fun s i => mD_lock (zup M 0 0 0) i s) (zdr ((zup M 0 0 0) 2) 4 s)) = mF_digest (zup M 0 0 0) → zV G X 8 (0) (0) (fun x => n ≤ x) ly (zupL τ o 38 s) (zwr σ o 103 (zup M 0 0 0)) 302 [some (.ref o), none, none, none, none, none, none, none, none] [] := by
    intro s he
    refine zr_aload_0 hO dX7_digest_302 ?_
    refine zr_getfr (c := 7) hO (by decide) (by decide) zf_X7_23 (zM_0 hM) rfl rfl dX7_digest_303 ?_
    refine zr_astore_2 hO dX7_digest_306 (by decide) rfl ?_
    refine zr_aload_2 hO dX7_digest_307 ?_
    refine zr_alen (v := 4) hO (zM_2 hM) rfl dX7_digest_308 ?_
    refine zr_istore_3 hO dX7_digest_309 (by decide) rfl ?_
    refine zr_iconst (v := 0) hO dX7_digest_310 (by decide) ?_
    refine zr_istore_4 hO dX7_digest_311 (by decide) rfl ?_
    rw [← nI_0]
    refine z_for (P := fun i9 s9 => zV G X 8 (0) (0) (fun x => n ≤ x) ly (zupL τ o 38 s9) (zwr σ o 103 (zup M 0 0 0)) 313 [some (.ref o), none, some (.ref (o + 2)), some (.int 4), some (.int (nI i9)), none, none, none, none] []) 4 (fun i9 s9 => zdg s9 (((zup M 0 0 0) 2) i9)) (fun _ _ => True) s trivial (fun _ _ _ _ => trivial) ?_ ?_
    · intro k9 s9 hk9 _ ihz
      refine zr_iload_4 hO dX7_digest_313 ?_
      refine zr_iload_3 hO dX7_digest_315 ?_
      refine zr_icmp_ge (tgt := 337) hO dX7_digest_316 (by decide) (fun c => absurd (zlt_T (x := 4) (by decide) hk9) c) (fun c9 => ?_)
      refine zr_aload_2 hO dX7_digest_319 ?_
      refine zr_iload_4 hO dX7_digest_320 ?_
      refine zg_ialdN hO (zM_2 hM) (by decide) hk9 (by decide) dX7_digest_322 ?_
      refine zr_istore_5 hO dX7_digest_323 (by decide) rfl ?_
      refine zr_aload_0 hO dX7_digest_325 ?_
      refine zr_iload_5 hO dX7_digest_326 ?_
      refine zr_V1 (D := d) hO hRm hL (by omega) (by decide) (c := 7) (by decide) (zM_0 hM) rfl rfl (e_X7_add (d := d - 1) htr hM) zl_X7_260 zi_X7_add zs_X7_add zc_X7_add zn_X7 zd_X7_add (Nat.le_of_ble_eq_true rfl) dX7_digest_328 (by omega) (by omega) ?_
      rw [zupL_zupL, zupL_at]
      refine zV_d5 ?_
      refine zr_iinc_4 (v := 1) hO dX7_digest_331 (by decide) (by decide) rfl ?_
      refine zr_goto (tgt := 313) hO dX7_digest_334 (by decide) ?_
      rw [nI_1]
      exact ihz
    · intro _
      refine zr_iload_4 hO dX7_digest_313 ?_
      refine zr_iload_3 hO dX7_digest_315 ?_
      refine zr_icmp_ge (tgt := 337) hO dX7_digest_316 (by decide) (fun c9 => ?_) (fun c => absurd c (zlt_F (x := 4) (by decide)))
      show zV G X 8 _ _ _ _ (zupL τ o 38 (zdr (((zup M 0 0 0) 2)) 4 s)) _ 337 _ _
      refine zV_d2 ?_
      refine zV_d3 ?_
      refine zV_d4 ?_
      exact key337 _ he
  have key253 : ∀ s : Int64, (List.range 6).foldl (fun s i => mD_event (zup M 0 0 0) i s) ((List.range 6).foldl (fun s i => mD_lock (zup M 0 0 0) i s) (zdr ((zup M 0 0 0) 2) 4 ((List.range (ix ((zup M 0 0 0) 0 6))).foldl (fun s i => mD_proc (zup M 0 0 0) i s) s))) = mF_digest (zup M 0 0 0) → zV G X 8 (0) (0) (fun x => n ≤ x) ly (zupL τ o 38 s) (zwr σ o 103 (zup M 0 0 0)) 253 [some (.ref o), none, none, none, none, none, none, none, none] [] := by
    intro s he
    refine zr_iconst (v := 0) hO dX7_digest_253 (by decide) ?_
    refine zr_istore_2 hO dX7_digest_254 (by decide) rfl ?_
    rw [← nI_0]
    refine z_for (P := fun k s => zV G X 8 (0) (0) (fun x => n ≤ x) ly (zupL τ o 38 s) (zwr σ o 103 (zup M 0 0 0)) 255 [some (.ref o), none, some (.int (nI k)), none, none, none, none, none, none] []) (ix ((zup M 0 0 0) 0 6)) (mD_proc (zup M 0 0 0)) (fun _ _ => True) s trivial (fun _ _ _ _ => trivial) ?_ ?_
    · intro k s hk _ ih
      refine zr_iload_2 hO dX7_digest_255 ?_
      refine zr_aload_0 hO dX7_digest_256 ?_
      refine zg_getfi0 (c := 7) hO (zM_0 hM) (by decide) (by decide) (by decide) zf_X7_16 rfl dX7_digest_257 ?_
      refine zr_icmp_ge (tgt := 302) hO dX7_digest_260 (by decide) (fun c => absurd (zlt_T (zmW_p hW0) hk) c) (fun c9 => ?_)
      have hk3 : k < 3 := by omega
      refine zr_aload_0 hO dX7_digest_263 ?_
      refine zr_aload_0 hO dX7_digest_264 ?_
      refine zr_getfr (c := 7) hO (by decide) (by decide) zf_X7_79 (zM_0 hM) rfl rfl dX7_digest_265 ?_
      refine zr_iload_2 hO dX7_digest_268 ?_
      refine zg_ialdN hO (zM_68 hM) (by decide) hk3 (by decide) dX7_digest_269 ?_
      refine zr_V1 (D := d) hO hRm hL (by omega) (by decide) (c := 7) (by decide) (zM_0 hM) rfl rfl (e_X7_add (d := d - 1) htr hM) zl_X7_260 zi_X7_add zs_X7_add zc_X7_add zn_X7 zd_X7_add (Nat.le_of_ble_eq_true rfl) dX7_digest_270 (by omega) (by omega) ?_
      rw [zupL_zupL, zupL_at]
      refine zr_iconst (v := 1) hO dX7_digest_273 (by decide) ?_
      refine zr_istore_3 hO dX7_digest_274 (by decide) rfl ?_
      rw [show (1 : Int32) = nI (0 + 1) from rfl]
      refine z_for (P := fun b s => zV G X 8 (0) (0) (fun x => n ≤ x) ly (zupL τ o 38 s) (zwr σ o 103 (zup M 0 0 0)) 275 [some (.ref o), none, some (.int (nI k)), some (.int (nI (b + 1))), none, none, none, none, none] []) 5 (fun b s => zdg s (mF_ran (zup M 0 0 0) (nI k) (nI (b + 1)))) (fun _ _ => True) (zdg s ((zup M 0 0 0) 68 k)) trivial (fun _ _ _ _ => trivial) ?_ ?_
      · intro b s hb _ ih2
        refine zr_iload_3 hO dX7_digest_275 ?_
        refine zr_iconst (v := 5) hO dX7_digest_276 (by decide) ?_
        refine zr_icmp_gt (tgt := 296) hO dX7_digest_277 (by decide) (fun c => absurd c (show ¬ (5 : Int32) < nI (b + 1) by rw [Int32.lt_iff_toInt_lt, nI_toInt (by omega), show (5 : Int32).toInt = 5 from rfl]; omega)) (fun c9 => ?_)
        refine zr_aload_0 hO dX7_digest_280 ?_
        refine zr_aload_0 hO dX7_digest_281 ?_
        refine zr_iload_2 hO dX7_digest_282 ?_
        refine zr_iload_3 hO dX7_digest_283 ?_
        refine zr_V2 (D := d) hO hRm hL (by omega) (by decide) (c := 7) (by decide) (zM_0 hM) rfl rfl (e_X7_ranNow (d := d - 1) htr hM (by omega) (vp_in_nI hk3 (by decide)) (by rw [nI_m1]; exact vp_in_nI (show b < 30 by omega) (by decide))) zl_X7_234 zi_X7_ranNow zs_X7_ranNow zc_X7_ranNow zn_X7 zd_X7_ranNow (Nat.le_of_ble_eq_true rfl) dX7_digest_284 (by omega) (by omega) ?_
        refine zr_V1 (D := d) hO hRm hL (by omega) (by decide) (c := 7) (by decide) (zM_0 hM) rfl rfl (e_X7_add (d := d - 1) htr hM) zl_X7_260 zi_X7_add zs_X7_add zc_X7_add zn_X7 zd_X7_add (Nat.le_of_ble_eq_true rfl) dX7_digest_287 (by omega) (by omega) ?_
        rw [zupL_zupL, zupL_at]
        refine zr_iinc_3 (v := 1) hO dX7_digest_290 (by decide) (by decide) rfl ?_
        refine zr_goto (tgt := 275) hO dX7_digest_293 (by decide) ?_
        rw [nI_1]
        exact ih2
      · intro _
        refine zr_iload_3 hO dX7_digest_275 ?_
        refine zr_iconst (v := 5) hO dX7_digest_276 (by decide) ?_
        refine zr_icmp_gt (tgt := 296) hO dX7_digest_277 (by decide) (fun c9 => ?_) (fun c => absurd (show (5 : Int32) < nI (5 + 1) by decide) c)
        refine zV_d3 ?_
        refine zr_iinc_2 (v := 1) hO dX7_digest_296 (by decide) (by decide) rfl ?_
        refine zr_goto (tgt := 255) hO dX7_digest_299 (by decide) ?_
        rw [nI_1]
        exact ih
    · intro _
      refine zr_iload_2 hO dX7_digest_255 ?_
      refine zr_aload_0 hO dX7_digest_256 ?_
      refine zg_getfi0 (c := 7) hO (zM_0 hM) (by decide) (by decide) (by decide) zf_X7_16 rfl dX7_digest_257 ?_
      refine zr_icmp_ge (tgt := 302) hO dX7_digest_260 (by decide) (fun c9 => ?_) (fun c => absurd c (zlt_F (zmW_p hW0)))
      refine zV_d2 ?_
      exact key302 _ he
  have key91 : ∀ s : Int64, (List.range 6).foldl (fun s i => mD_event (zup M 0 0 0) i s) ((List.range 6).foldl (fun s i => mD_lock (zup M 0 0 0) i s) (zdr ((zup M 0 0 0) 2) 4 ((List.range (ix ((zup M 0 0 0) 0 6))).foldl (fun s i => mD_proc (zup M 0 0 0) i s) ((List.range (ix ((zup M 0 0 0) 0 15))).foldl (fun s i => mD_task (zup M 0 0 0) i s) s)))) = mF_digest (zup M 0 0 0) → zV G X 8 (16) (112) (fun x => n ≤ x) ly (zupL τ o 38 s) (zwr σ o 103 (zup M 0 0 0)) 91 [some (.ref o), none, none, none, none, none, none, none, none] [] := by
    intro s he
    refine zr_iconst (v := 0) hO dX7_digest_91 (by decide) ?_
    refine zr_istore_2 hO dX7_digest_92 (by decide) rfl ?_
    rw [← nI_0]
    refine z_for (P := fun k s => zV G X 8 (16 - k) (7 * (16 - k)) (fun x => n ≤ x) ly (zupL τ o 38 s) (zwr σ o 103 (zup M 0 0 0)) 93 [some (.ref o), none, some (.int (nI k)), none, none, none, none, none, none] []) (ix ((zup M 0 0 0) 0 15)) (mD_task (zup M 0 0 0)) (fun _ _ => True) s trivial (fun _ _ _ _ => trivial) ?_ ?_
    · intro k s hk _ ih
      refine zr_iload_2 hO dX7_digest_93 ?_
      refine zr_aload_0 hO dX7_digest_94 ?_
      refine zg_getfi0 (c := 7) hO (zM_0 hM) (by decide) (by decide) (by decide) zf_X7_110 rfl dX7_digest_95 ?_
      refine zr_icmp_ge (tgt := 253) hO dX7_digest_98 (by decide) (fun c => absurd (zlt_T (zmW_n hW0) hk) c) (fun c9 => ?_)
      have hk16 : k < 16 := by omega
      refine zr_bipush (v := 7) hO dX7_digest_101 (by decide) ?_
      refine zr_newI (N := 7) hO (by decide) rfl (by decide) (by omega) (by omega) dX7_digest_103 (fun q hq => ?_)
      have hq1 : o + 103 ≤ q := by omega
      rw [zwr_zrow _ _ _ (Or.inr hq1)]
      have hM9 := zM_lk (kd := (1, 7, znr)) hM hq1
      have hq9 : zlk ly q (1, 7, znr) q = (1, 7, znr) := zlk_eq _ _ _
      refine zV_S (S' := fun x => q + 1 ≤ x) (fun z hz => by omega) ?_
      refine zr_dup hO dX7_digest_105 rfl ?_
      refine zr_iconst (v := 0) hO dX7_digest_106 (by decide) ?_
      refine zr_aload_0 hO dX7_digest_107 ?_
      refine zr_getfr (c := 7) hO (by decide) (by decide) zf_X7_46 (zM_0 hM9) rfl rfl dX7_digest_108 ?_
      refine zr_iload_2 hO dX7_digest_111 ?_
      refine zg_ialdN hO (zM_41 hM9) (by decide) hk16 (by decide) dX7_digest_112 ?_
      refine zd_iast hO hq1 hq9 (zin_i ⟨by decide, by decide⟩) dX7_digest_113 ?_
      refine zV_pc (pc' := 114) rfl ?_
      refine zr_dup hO dX7_digest_114 rfl ?_
      refine zr_iconst (v := 1) hO dX7_digest_115 (by decide) ?_
      refine zr_aload_0 hO dX7_digest_116 ?_
      refine zr_getfr (c := 7) hO (by decide) (by decide) zf_X7_49 (zM_0 hM9) rfl rfl dX7_digest_117 ?_
      refine zr_iload_2 hO dX7_digest_120 ?_
      refine zg_ialdN hO (zM_42 hM9) (by decide) hk16 (by decide) dX7_digest_121 ?_
      refine zd_iast hO hq1 hq9 (zin_i ⟨by decide, by decide⟩) dX7_digest_122 ?_
      refine zV_pc (pc' := 123) rfl ?_
      refine zr_dup hO dX7_digest_123 rfl ?_
      refine zr_iconst (v := 2) hO dX7_digest_124 (by decide) ?_
      refine zr_aload_0 hO dX7_digest_125 ?_
      refine zr_getfr (c := 7) hO (by decide) (by decide) zf_X7_52 (zM_0 hM9) rfl rfl dX7_digest_126 ?_
      refine zr_iload_2 hO dX7_digest_129 ?_
      refine zg_ialdN hO (zM_43 hM9) (by decide) hk16 (by decide) dX7_digest_130 ?_
      refine zd_iast hO hq1 hq9 (zin_i ⟨by decide, by decide⟩) dX7_digest_131 ?_
      refine zV_pc (pc' := 132) rfl ?_
      refine zr_dup hO dX7_digest_132 rfl ?_
      refine zr_iconst (v := 3) hO dX7_digest_133 (by decide) ?_
      refine zr_aload_0 hO dX7_digest_134 ?_
      refine zr_iload_2 hO dX7_digest_135 ?_
      refine zr_V1 (D := d) hO hRm hL (by omega) (by decide) (c := 7) (by decide) (zM_0 hM9) rfl rfl (e_X7_keyNow (d := d - 1) htr hM9 (by omega) (vp_in_nI hk16 (by decide))) zl_X7_131 zi_X7_keyNow zs_X7_keyNow zc_X7_keyNow zn_X7 zd_X7_keyNow (Nat.le_of_ble_eq_true rfl) dX7_digest_136 (by omega) (by omega) ?_
      refine zd_iast hO hq1 hq9 (zin_i ⟨by decide, by decide⟩) dX7_digest_139 ?_
      refine zV_pc (pc' := 140) rfl ?_
      refine zr_dup hO dX7_digest_140 rfl ?_
      refine zr_iconst (v := 4) hO dX7_digest_141 (by decide) ?_
      refine zr_aload_0 hO dX7_digest_142 ?_
      refine zr_iload_2 hO dX7_digest_143 ?_
      refine zr_V1 (D := d) hO hRm hL (by omega) (by decide) (c := 7) (by decide) (zM_0 hM9) rfl rfl (e_X7_lentNow (d := d - 1) htr hM9 (by omega) hW0 (vp_in_nI hk16 (by decide))) zl_X7_150 zi_X7_lentNow zs_X7_lentNow zc_X7_lentNow zn_X7 zd_X7_lentNow (Nat.le_of_ble_eq_true rfl) dX7_digest_144 (by omega) (by omega) ?_
      refine zd_iast hO hq1 hq9 (zin_i ⟨by decide, by decide⟩) dX7_digest_147 ?_
      refine zV_pc (pc' := 148) rfl ?_
      refine zr_dup hO dX7_digest_148 rfl ?_
      refine zr_iconst (v := 5) hO dX7_digest_149 (by decide) ?_
      refine zr_aload_0 hO dX7_digest_150 ?_
      refine zr_getfr (c := 7) hO (by decide) (by decide) zf_X7_58 (zM_0 hM9) rfl rfl dX7_digest_151 ?_
      refine zr_iload_2 hO dX7_digest_154 ?_
      refine zg_ialdN hO (zM_45 hM9) (by decide) hk16 (by decide) dX7_digest_155 ?_
      refine zd_iast hO hq1 hq9 (zin_i ⟨by decide, by decide⟩) dX7_digest_156 ?_
      refine zV_pc (pc' := 157) rfl ?_
      refine zr_dup hO dX7_digest_157 rfl ?_
      refine zr_bipush (v := 6) hO dX7_digest_158 (by decide) ?_
      refine zr_aload_0 hO dX7_digest_160 ?_
      refine zr_getfr (c := 7) hO (by decide) (by decide) zf_X7_61 (zM_0 hM9) rfl rfl dX7_digest_161 ?_
      refine zr_iload_2 hO dX7_digest_164 ?_
      refine zg_ialdN hO (zM_46 hM9) (by decide) hk16 (by decide) dX7_digest_165 ?_
      refine zd_iast hO hq1 hq9 (zin_i ⟨by decide, by decide⟩) dX7_digest_166 ?_
      refine zV_pc (pc' := 167) rfl ?_
      refine zr_astore_3 hO dX7_digest_167 (by decide) rfl ?_
      refine zr_aload_3 hO dX7_digest_168 ?_
      refine zr_astore_4 hO dX7_digest_169 (by decide) rfl ?_
      refine zr_aload_4 hO dX7_digest_171 ?_
      refine zr_alen (v := 7) hO hq9 rfl dX7_digest_173 ?_
      refine zr_istore_5 hO dX7_digest_174 (by decide) rfl ?_
      refine zr_iconst (v := 0) hO dX7_digest_176 (by decide) ?_
      refine zr_istore_6 hO dX7_digest_177 (by decide) rfl ?_
      rw [← nI_0]
      refine zV_d3 ?_
      refine zV_b (bc' := 16 - k - 1) (bs' := 7 * (16 - k) - 7) (by omega) (by omega) ?_
      refine z_for (P := fun i9 s9 => zV G X 8 (16 - k - 1) (7 * (16 - k) - 7) (fun x => q + 1 ≤ x) (zlk ly q (1, 7, znr)) (zupL τ o 38 s9) (zwr (zrow σ q (mD_of (zup M 0 0 0) k)) o 103 (zup M 0 0 0)) 179 [some (.ref o), none, some (.int (nI k)), none, some (.ref q), some (.int 7), some (.int (nI i9)), none, none] []) 7 (fun i9 s9 => zdg s9 ((mD_of (zup M 0 0 0) k) i9)) (fun _ _ => True) s trivial (fun _ _ _ _ => trivial) ?_ ?_
      · intro k9 s9 hk9 _ ihz
        refine zr_iload_6 hO dX7_digest_179 ?_
        refine zr_iload_5 hO dX7_digest_181 ?_
        refine zr_icmp_ge (tgt := 205) hO dX7_digest_183 (by decide) (fun c => absurd (zlt_T (x := 7) (by decide) hk9) c) (fun c9 => ?_)
        refine zr_aload_4 hO dX7_digest_186 ?_
        refine zr_iload_6 hO dX7_digest_188 ?_
        refine zd_ialdN hO hq1 hq9 hk9 (by decide) dX7_digest_190 ?_
        refine zr_istore_7 hO dX7_digest_191 (by decide) rfl ?_
        refine zr_aload_0 hO dX7_digest_193 ?_
        refine zr_iload_7 hO dX7_digest_194 ?_
        refine zr_V1 (D := d) hO hRm hL (by omega) (by decide) (c := 7) (by decide) (zM_0 hM9) rfl rfl (e_X7_add (d := d - 1) htr hM9) zl_X7_260 zi_X7_add zs_X7_add zc_X7_add zn_X7 zd_X7_add (Nat.le_of_ble_eq_true rfl) dX7_digest_196 (by omega) (by omega) ?_
        rw [zupL_zupL, zupL_at]
        refine zV_d7 ?_
        refine zr_iinc_6 (v := 1) hO dX7_digest_199 (by decide) (by decide) rfl ?_
        refine zr_goto (tgt := 179) hO dX7_digest_202 (by decide) ?_
        rw [nI_1]
        exact ihz
      · intro _
        refine zr_iload_6 hO dX7_digest_179 ?_
        refine zr_iload_5 hO dX7_digest_181 ?_
        refine zr_icmp_ge (tgt := 205) hO dX7_digest_183 (by decide) (fun c9 => ?_) (fun c => absurd c (zlt_F (x := 7) (by decide)))
        show zV G X 8 _ _ _ _ (zupL τ o 38 (zdr ((mD_of (zup M 0 0 0) k)) 7 s)) _ 205 _ _
        refine zV_d4 ?_
        refine zV_d5 ?_
        refine zV_d6 ?_
        refine zV_fg hz (show n ≤ q by omega) (fun x hx => by omega) ?_
        refine zr_aload_0 hO dX7_digest_205 ?_
        refine zr_getfr (c := 7) hO (by decide) (by decide) zf_X7_76 (zM_0 hM) rfl rfl dX7_digest_206 ?_
        refine zr_iload_2 hO dX7_digest_209 ?_
        refine zr_aaldIN hO (zM_51 hM) hk16 (by decide) dX7_digest_210 ?_
        refine zr_astore_4 hO dX7_digest_211 (by decide) rfl ?_
        refine zr_aload_4 hO dX7_digest_213 ?_
        refine zr_alen (v := 5) hO (zM_cnt hM hk16) rfl dX7_digest_215 ?_
        refine zr_istore_5 hO dX7_digest_216 (by decide) rfl ?_
        refine zr_iconst (v := 0) hO dX7_digest_218 (by decide) ?_
        refine zr_istore_6 hO dX7_digest_219 (by decide) rfl ?_
        rw [← nI_0]
        refine z_for (P := fun i9 s9 => zV G X 8 (16 - k - 1) (7 * (16 - k) - 7) (fun x => n ≤ x) ly (zupL τ o 38 s9) (zwr σ o 103 (zup M 0 0 0)) 221 [some (.ref o), none, some (.int (nI k)), none, some (.ref (o + (52 + k))), some (.int 5), some (.int (nI i9)), none, none] []) 5 (fun i9 s9 => zdg s9 (((zup M 0 0 0) (52 + k)) i9)) (fun _ _ => True) (zdr (mD_of (zup M 0 0 0) k) 7 s) trivial (fun _ _ _ _ => trivial) ?_ ?_
        · intro k9 s9 hk9 _ ihz
          refine zr_iload_6 hO dX7_digest_221 ?_
          refine zr_iload_5 hO dX7_digest_223 ?_
          refine zr_icmp_ge (tgt := 247) hO dX7_digest_225 (by decide) (fun c => absurd (zlt_T (x := 5) (by decide) hk9) c) (fun c9 => ?_)
          refine zr_aload_4 hO dX7_digest_228 ?_
          refine zr_iload_6 hO dX7_digest_230 ?_
          refine zg_ialdN hO (zM_cnt hM hk16) (by omega) hk9 (by decide) dX7_digest_232 ?_
          refine zr_istore_7 hO dX7_digest_233 (by decide) rfl ?_
          refine zr_aload_0 hO dX7_digest_235 ?_
          refine zr_iload_7 hO dX7_digest_236 ?_
          refine zr_V1 (D := d) hO hRm hL (by omega) (by decide) (c := 7) (by decide) (zM_0 hM) rfl rfl (e_X7_add (d := d - 1) htr hM) zl_X7_260 zi_X7_add zs_X7_add zc_X7_add zn_X7 zd_X7_add (Nat.le_of_ble_eq_true rfl) dX7_digest_238 (by omega) (by omega) ?_
          rw [zupL_zupL, zupL_at]
          refine zV_d7 ?_
          refine zr_iinc_6 (v := 1) hO dX7_digest_241 (by decide) (by decide) rfl ?_
          refine zr_goto (tgt := 221) hO dX7_digest_244 (by decide) ?_
          rw [nI_1]
          exact ihz
        · intro _
          refine zr_iload_6 hO dX7_digest_221 ?_
          refine zr_iload_5 hO dX7_digest_223 ?_
          refine zr_icmp_ge (tgt := 247) hO dX7_digest_225 (by decide) (fun c9 => ?_) (fun c => absurd c (zlt_F (x := 5) (by decide)))
          show zV G X 8 _ _ _ _ (zupL τ o 38 (zdr (((zup M 0 0 0) (52 + k))) 5 (zdr (mD_of (zup M 0 0 0) k) 7 s))) _ 247 _ _
          refine zV_d4 ?_
          refine zV_d5 ?_
          refine zV_d6 ?_
          refine zr_iinc_2 (v := 1) hO dX7_digest_247 (by decide) (by decide) rfl ?_
          refine zr_goto (tgt := 93) hO dX7_digest_250 (by decide) ?_
          rw [nI_1]
          refine zV_b (bc' := 16 - (k + 1)) (bs' := 7 * (16 - (k + 1))) (by omega) (by omega) ?_
          exact ih
    · intro _
      refine zr_iload_2 hO dX7_digest_93 ?_
      refine zr_aload_0 hO dX7_digest_94 ?_
      refine zg_getfi0 (c := 7) hO (zM_0 hM) (by decide) (by decide) (by decide) zf_X7_110 rfl dX7_digest_95 ?_
      refine zr_icmp_ge (tgt := 253) hO dX7_digest_98 (by decide) (fun c9 => ?_) (fun c => absurd c (zlt_F (zmW_n hW0)))
      refine zV_d2 ?_
      refine zV_b (bc' := 0) (bs' := 0) (Nat.zero_le _) (Nat.zero_le _) ?_
      exact key253 _ he
  refine zr_aload_0 hO dX7_digest_0 ?_
  refine zr_iconst (v := 0) hO dX7_digest_1 (by decide) ?_
  refine zg_putfi0 (c := 7) hO (zM_0 hM) (by decide) (by decide) (by decide) zf_X7_120 rfl rfl dX7_digest_2 ?_
  refine zr_aload_0 hO dX7_digest_5 ?_
  refine zr_ldc2 hO zlc_X7_258 rfl dX7_digest_6 ?_
  refine zr_putfl (c := 7) hO (by decide) (by decide) zf_X7_252 (zM_0 hM) rfl rfl dX7_digest_9 ?_
  refine zr_bipush (v := 6) hO dX7_digest_12 (by decide) ?_
  refine zr_newI (N := 6) hO (by decide) rfl (by decide) (by omega) (by omega) dX7_digest_14 (fun q hq => ?_)
  have hq1 : o + 103 ≤ q := by omega
  rw [zwr_zrow _ _ _ (Or.inr hq1)]
  have hM9 := zM_lk (kd := (1, 6, znr)) hM hq1
  have hq9 : zlk ly q (1, 6, znr) q = (1, 6, znr) := zlk_eq _ _ _
  refine zV_S (S' := fun x => q + 1 ≤ x) (fun z hz => by omega) ?_
  refine zr_dup hO dX7_digest_16 rfl ?_
  refine zr_iconst (v := 0) hO dX7_digest_17 (by decide) ?_
  refine zr_aload_0 hO dX7_digest_18 ?_
  refine zg_getfi0 (c := 7) hO (zM_0 hM9) (by decide) (by decide) (by decide) zf_X7_95 rfl dX7_digest_19 ?_
  refine zd_iast hO hq1 hq9 (zin_i ⟨by decide, by decide⟩) dX7_digest_22 ?_
  refine zV_pc (pc' := 23) rfl ?_
  refine zr_dup hO dX7_digest_23 rfl ?_
  refine zr_iconst (v := 1) hO dX7_digest_24 (by decide) ?_
  refine zr_aload_0 hO dX7_digest_25 ?_
  refine zg_getfi0 (c := 7) hO (zM_0 hM9) (by decide) (by decide) (by decide) zf_X7_110 rfl dX7_digest_26 ?_
  refine zd_iast hO hq1 hq9 (zin_i ⟨by decide, by decide⟩) dX7_digest_29 ?_
  refine zV_pc (pc' := 30) rfl ?_
  refine zr_dup hO dX7_digest_30 rfl ?_
  refine zr_iconst (v := 2) hO dX7_digest_31 (by decide) ?_
  refine zr_aload_0 hO dX7_digest_32 ?_
  refine zg_getfi0 (c := 7) hO (zM_0 hM9) (by decide) (by decide) (by decide) zf_X7_16 rfl dX7_digest_33 ?_
  refine zd_iast hO hq1 hq9 (zin_i ⟨by decide, by decide⟩) dX7_digest_36 ?_
  refine zV_pc (pc' := 37) rfl ?_
  refine zr_dup hO dX7_digest_37 rfl ?_
  refine zr_iconst (v := 3) hO dX7_digest_38 (by decide) ?_
  refine zr_aload_0 hO dX7_digest_39 ?_
  refine zg_getfi0 (c := 7) hO (zM_0 hM9) (by decide) (by decide) (by decide) zf_X7_180 rfl dX7_digest_40 ?_
  refine zd_iast hO hq1 hq9 (zin_i ⟨by decide, by decide⟩) dX7_digest_43 ?_
  refine zV_pc (pc' := 44) rfl ?_
  refine zr_dup hO dX7_digest_44 rfl ?_
  refine zr_iconst (v := 4) hO dX7_digest_45 (by decide) ?_
  refine zr_aload_0 hO dX7_digest_46 ?_
  refine zg_getfi0 (c := 7) hO (zM_0 hM9) (by decide) (by decide) (by decide) zf_X7_209 rfl dX7_digest_47 ?_
  refine zd_iast hO hq1 hq9 (zin_i ⟨by decide, by decide⟩) dX7_digest_50 ?_
  refine zV_pc (pc' := 51) rfl ?_
  refine zr_dup hO dX7_digest_51 rfl ?_
  refine zr_iconst (v := 5) hO dX7_digest_52 (by decide) ?_
  refine zr_aload_0 hO dX7_digest_53 ?_
  refine zr_V0 (D := d) hO hRm hL (by omega) (by decide) (c := 7) (by decide) (zM_0 hM9) rfl rfl (e_X7_stuckNow (d := d - 1) htr hM9 (by omega) hW0 hB0) zl_X7_240 zi_X7_stuckNow zs_X7_stuckNow zc_X7_stuckNow zn_X7 zd_X7_stuckNow (Nat.le_of_ble_eq_true rfl) dX7_digest_54 (by omega) (by omega) ?_
  refine zd_iast hO hq1 hq9 (zin_i ⟨by decide, by decide⟩) dX7_digest_57 ?_
  refine zV_pc (pc' := 58) rfl ?_
  refine zr_astore_1 hO dX7_digest_58 (by decide) rfl ?_
  refine zr_aload_1 hO dX7_digest_59 ?_
  refine zr_astore_2 hO dX7_digest_60 (by decide) rfl ?_
  refine zr_aload_2 hO dX7_digest_61 ?_
  refine zr_alen (v := 6) hO hq9 rfl dX7_digest_62 ?_
  refine zr_istore_3 hO dX7_digest_63 (by decide) rfl ?_
  refine zr_iconst (v := 0) hO dX7_digest_64 (by decide) ?_
  refine zr_istore_4 hO dX7_digest_65 (by decide) rfl ?_
  rw [← nI_0]
  refine zV_d1 ?_
  refine z_for (P := fun i9 s9 => zV G X 8 (17 - 1) (118 - 6) (fun x => q + 1 ≤ x) (zlk ly q (1, 6, znr)) (zupL τ o 38 s9) (zwr (zrow σ q (mD_head (zup M 0 0 0))) o 103 (zup M 0 0 0)) 67 [some (.ref o), none, some (.ref q), some (.int 6), some (.int (nI i9)), none, none, none, none] []) 6 (fun i9 s9 => zdg s9 ((mD_head (zup M 0 0 0)) i9)) (fun _ _ => True) 58049 trivial (fun _ _ _ _ => trivial) ?_ ?_
  · intro k9 s9 hk9 _ ihz
    refine zr_iload_4 hO dX7_digest_67 ?_
    refine zr_iload_3 hO dX7_digest_69 ?_
    refine zr_icmp_ge (tgt := 91) hO dX7_digest_70 (by decide) (fun c => absurd (zlt_T (x := 6) (by decide) hk9) c) (fun c9 => ?_)
    refine zr_aload_2 hO dX7_digest_73 ?_
    refine zr_iload_4 hO dX7_digest_74 ?_
    refine zd_ialdN hO hq1 hq9 hk9 (by decide) dX7_digest_76 ?_
    refine zr_istore_5 hO dX7_digest_77 (by decide) rfl ?_
    refine zr_aload_0 hO dX7_digest_79 ?_
    refine zr_iload_5 hO dX7_digest_80 ?_
    refine zr_V1 (D := d) hO hRm hL (by omega) (by decide) (c := 7) (by decide) (zM_0 hM9) rfl rfl (e_X7_add (d := d - 1) htr hM9) zl_X7_260 zi_X7_add zs_X7_add zc_X7_add zn_X7 zd_X7_add (Nat.le_of_ble_eq_true rfl) dX7_digest_82 (by omega) (by omega) ?_
    rw [zupL_zupL, zupL_at]
    refine zV_d5 ?_
    refine zr_iinc_4 (v := 1) hO dX7_digest_85 (by decide) (by decide) rfl ?_
    refine zr_goto (tgt := 67) hO dX7_digest_88 (by decide) ?_
    rw [nI_1]
    exact ihz
  · intro _
    refine zr_iload_4 hO dX7_digest_67 ?_
    refine zr_iload_3 hO dX7_digest_69 ?_
    refine zr_icmp_ge (tgt := 91) hO dX7_digest_70 (by decide) (fun c9 => ?_) (fun c => absurd c (zlt_F (x := 6) (by decide)))
    show zV G X 8 _ _ _ _ (zupL τ o 38 (zdr ((mD_head (zup M 0 0 0))) 6 58049)) _ 91 _ _
    refine zV_d2 ?_
    refine zV_d3 ?_
    refine zV_d4 ?_
    refine zV_fg hz (show n ≤ q by omega) (fun x hx => by omega) ?_
    exact key91 _ rfl
