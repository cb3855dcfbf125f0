set_option maxRecDepth 100000 in
set_option maxHeartbeats 4000000 in
theorem e_X7_take {l : Launch} {G : zGm} {d n o : Nat} {ly : zLy} {τ : zTu} {σ M : zSg} {c : Nat} {T : Nat → Int32} {f : Nat} (htr : l.stackTraces = false) (hM : zM ly o) (hd : 3 ≤ d) (hW : zmW M) (hon : o + 103 ≤ n) (hz : ∀ a, n ≤ a → (ly a).1 = 0)
    (htk : mF_tk M (mF_left M).1 f (mF_left M).2 0 (M 2) (fun _ => 0) = some (c, T))
    (hgv : ∀ k, k < c → ¬ (mF_gives T k (mF_keep T c M)) 41 (ix (T k)) = 2 → ∀ s, s = mF_gives T k (mF_keep T c M) → ¬ s 68 (ix 0) = -1 → ¬ s 68 (ix (0 + 1)) = -1 → s 68 (ix (0 + 1 + 1)) = -1) :
    zEv l G d 3 23 (yX7_take, cX7_take, 8, none) [.ref o] (fun x => n ≤ x) ly τ (zwr σ o 103 M) (zPl n ly τ (zwr σ o 103 (mF_gives T c (mF_keep T c M))) none) := by
  refine zEv_of (ls := [some (.ref o), none, none, none, none, none, none, none, none]) htr (by decide) (Nat.le_of_ble_eq_true rfl) rfl (fun X hO hE hN hRm hL hNm => ?_)
  have hO : zOk G X RX7 cX7_take 8 := hO
  obtain ⟨hTin, hc3⟩ := mF_tk_in hW f (mF_left M).2 0 (M 2) (fun _ => 0) c T (fun k hk => absurd hk (Nat.not_lt_zero k)) (by decide) htk
  refine zr_bipush (v := 16) hO dX7_take_0 (by decide) ?_
  refine zr_newI (N := 16) hO (by decide) (by decide) (by decide) (by decide) (by decide) dX7_take_2 (fun q1 hq1 => ?_)
  refine zr_astore_1 hO dX7_take_4 (by decide) rfl ?_
  rw [zwr_zrow σ M _ (Or.inr (by omega))]
  have hMa := zM_lk (kd := (1, 16, znr)) hM (show o + 103 ≤ q1 by omega)
  refine zr_aload_0 hO dX7_take_5 ?_
  refine zr_getfr (c := 7) hO (by decide) (by decide) zf_X7_23 (zM_0 hMa) rfl rfl dX7_take_6 ?_
  refine zr_clone (D := d) hO (by omega) hRm zl_X7_165 zk_X7_113 (zM_2 hMa) (by decide) (by decide) (Nat.le_of_ble_eq_true rfl) dX7_take_9 dX7_take_12 (fun q2 hq2 => ?_)
  refine zr_astore_2 hO dX7_take_15 (by decide) rfl ?_
  rw [show (zwr (zrow σ q1 (fun _ => 0)) o 103 M) (o + 2) = M 2 from funext (fun j => zwr_in _ M j (by decide)), zwr_zrow _ M _ (Or.inr (by omega))]
  have hMb := zM_lk (kd := (1, 4, znr)) hMa (show o + 103 ≤ q2 by omega)
  refine zr_iconst (v := 3) hO dX7_take_16 (by decide) ?_
  refine zr_newI (N := 3) hO (by decide) (by decide) (by decide) (by decide) (by decide) dX7_take_17 (fun q3 hq3 => ?_)
  refine zr_astore_3 hO dX7_take_19 (by decide) rfl ?_
  rw [zwr_zrow _ M _ (Or.inr (by omega))]
  have hM3 := zM_lk (kd := (1, 3, znr)) hMb (show o + 103 ≤ q3 by omega)
  have hQ : zQ3 (zlk (zlk (zlk ly q1 (1, 16, znr)) q2 (1, 4, znr)) q3 (1, 3, znr)) o q1 q2 q3 := by
    refine ⟨?_, ?_, zlk_eq _ _ _, by omega, by omega, by omega⟩
    · rw [zlk_ne _ _ (by omega), zlk_ne _ _ (by omega), zlk_eq]
    · rw [zlk_ne _ _ (by omega), zlk_eq]
  have hout : ∀ a, (ly a).1 = 0 ∨ (a ≠ q1 ∧ a ≠ q2 ∧ a ≠ q3 ∧ ly a = (zlk (zlk (zlk ly q1 (1, 16, znr)) q2 (1, 4, znr)) q3 (1, 3, znr)) a) := by
    intro a
    by_cases h1 : a = q1
    · exact Or.inl (hz a (by omega))
    · by_cases h2 : a = q2
      · exact Or.inl (hz a (by omega))
      · by_cases h3 : a = q3
        · exact Or.inl (hz a (by omega))
        · exact Or.inr ⟨h1, h2, h3, by rw [zlk_ne _ _ h3, zlk_ne _ _ h2, zlk_ne _ _ h1]⟩
  generalize zlk (zlk (zlk ly q1 (1, 16, znr)) q2 (1, 4, znr)) q3 (1, 3, znr) = ly3 at hM3 hQ hout ⊢
  obtain ⟨n3, hn3⟩ : ∃ n3, n3 = q3 + 1 := ⟨_, rfl⟩
  refine zV_S (S' := fun x => n3 ≤ x) (fun z hz => by omega) ?_
  refine zV_b (bc' := 0) (bs' := 0) (Nat.zero_le _) (Nat.zero_le _) ?_
  have hz3 : zwr (zrow (zrow (zrow σ q1 (fun _ => 0)) q2 (M 2)) q3 (fun _ => 0)) o 103 M = zwr (z3 σ q1 q2 q3 (fun _ => 0) (M 2) (fun _ => 0)) o 103 M := rfl
  rw [hz3]
  have key241 : ∀ (P : Nat → Int32), zV G X 8 0 0 (fun x => n3 ≤ x) ly3 τ (zwr (z3 σ q1 q2 q3 (mF_left M).1 P T) o 103 M) 241 [some (.ref o), some (.ref q1), some (.ref q2), some (.ref q3), some (.int (nI c)), none, none, none, none] [] := by
    intro P
    refine zr_iconst (v := 0) hO dX7_take_241 (by decide) ?_
    refine zr_istore_6 hO dX7_take_242 (by decide) rfl ?_
    refine z_for (P := fun k s => zV G X 8 0 0 (fun x => n3 ≤ x) ly3 τ (zwr (z3 σ q1 q2 q3 (mF_left M).1 P T) o 103 s) 244 [some (.ref o), some (.ref q1), some (.ref q2), some (.ref q3), some (.int (nI c)), none, some (.int (nI k)), none, none] []) (ix (M 0 6)) (mB_keep T c) (fun _ s => zk M s) M (zk_r hW) (fun i s _ h => zk_keep1 h T c i) ?_ ?_
    · intro k s hk hIk ih
      have hk3 : k < 3 := by have := zmW_p3 hW; omega
      have hbin (h : ¬ s 68 k = -1) : vp_in (s 68 k) 16 := zin_m1 (b := 15) (hIk.1 68 _) (by decide) h
      refine zr_iload_6 hO dX7_take_244 ?_
      refine zr_aload_0 hO dX7_take_246 ?_
      refine zg_getfi0 (c := 7) hO (zM_0 hM3) (by decide) (by decide) (by decide) zf_X7_16 rfl dX7_take_247 ?_
      refine zr_icmp_ge (tgt := 310) hO dX7_take_250 (by decide) (fun c250 => ?_) (fun c250 => ?_)
      · exact absurd (by rw [hIk.2 0 6 rfl]; exact zlt_T (zmW_p hW) hk) c250
      · refine zr_aload_0 hO dX7_take_253 ?_
        refine zr_getfr (c := 7) hO (by decide) (by decide) zf_X7_79 (zM_0 hM3) rfl rfl dX7_take_254 ?_
        refine zr_iload_6 hO dX7_take_257 ?_
        refine zg_ialdN hO (zM_68 hM3) (by decide) (by omega) (by decide) dX7_take_259 ?_
        refine zr_iconst (v := (-1)) hO dX7_take_260 (by decide) ?_
        refine zr_icmp_eq (tgt := 304) hO dX7_take_261 (by decide) (fun c261 => ?_) (fun c261 => ?_)
        · refine zr_iinc_6 (v := 1) hO dX7_take_304 (by decide) (by decide) rfl ?_
          refine zr_goto (tgt := 244) hO dX7_take_307 (by decide) ?_
          rw [nI_1]
          simp only [mB_keep, if_pos c250, if_pos c261] at ih
          first | exact ih | contradiction
        · refine zr_aload_3 hO dX7_take_264 ?_
          refine zr_iload_4 hO dX7_take_265 ?_
          refine zr_aload_0 hO dX7_take_267 ?_
          refine zr_getfr (c := 7) hO (by decide) (by decide) zf_X7_79 (zM_0 hM3) rfl rfl dX7_take_268 ?_
          refine zr_iload_6 hO dX7_take_271 ?_
          refine zg_ialdN hO (zM_68 hM3) (by decide) (by omega) (by decide) dX7_take_273 ?_
          refine zr_S3 (D := d) hO hRm hL (by omega) (by decide) rfl (e_X7_has (d := d - 1) htr hQ.2.2.1 hc3 (by decide)) zl_X7_173 zt_X7_has zc_X7_has zn_X7 zd_X7_has (Nat.le_of_ble_eq_true rfl) dX7_take_274 (by omega) (by omega) ?_
          rw [z3_3 _ _ _ _ _ hQ.2.2.2.1 hQ.2.2.2.2.1 hQ.2.2.2.2.2]
          refine zV_pc (pc' := 277) rfl ?_
          refine zr_ifb_eq (tgt := 283) hO dX7_take_277 (by decide) (fun c277 => ?_) (fun c277 => ?_)
          · refine zr_aload_0 hO dX7_take_283 ?_
            refine zr_getfr (c := 7) hO (by decide) (by decide) zf_X7_46 (zM_0 hM3) rfl rfl dX7_take_284 ?_
            refine zr_aload_0 hO dX7_take_287 ?_
            refine zr_getfr (c := 7) hO (by decide) (by decide) zf_X7_79 (zM_0 hM3) rfl rfl dX7_take_288 ?_
            refine zr_iload_6 hO dX7_take_291 ?_
            refine zg_ialdN hO (zM_68 hM3) (by decide) (by omega) (by decide) dX7_take_293 ?_
            refine zr_iconst (v := 1) hO dX7_take_294 (by decide) ?_
            refine zV_pc (pc' := 295) rfl ?_
            refine zg_iast hO (zM_41 hM3) (by decide) (by first | assumption | exact hbin c261 | exact hTin _ hk) dX7_take_295 ?_
            refine zr_aload_0 hO dX7_take_296 ?_
            refine zr_getfr (c := 7) hO (by decide) (by decide) zf_X7_79 (zM_0 hM3) rfl rfl dX7_take_297 ?_
            refine zr_iload_6 hO dX7_take_300 ?_
            refine zr_iconst (v := (-1)) hO dX7_take_302 (by decide) ?_
            refine zg_iastN hO (zM_68 hM3) (by decide) (by omega) (by decide) dX7_take_303 ?_
            refine zr_iinc_6 (v := 1) hO dX7_take_304 (by decide) (by decide) rfl ?_
            refine zV_pc (pc' := 307) rfl ?_
            refine zr_goto (tgt := 244) hO dX7_take_307 (by decide) ?_
            rw [nI_1]
            simp only [mB_keep, if_pos c250, if_neg c261, if_neg (zif_f c277)] at ih
            first | exact ih | contradiction
          · refine zr_goto (tgt := 304) hO dX7_take_280 (by decide) ?_
            refine zr_iinc_6 (v := 1) hO dX7_take_304 (by decide) (by decide) rfl ?_
            refine zr_goto (tgt := 244) hO dX7_take_307 (by decide) ?_
            rw [nI_1]
            simp only [mB_keep, if_pos c250, if_neg c261, if_pos c277] at ih
            first | exact ih | contradiction
    · intro hIk
      refine zr_iload_6 hO dX7_take_244 ?_
      refine zr_aload_0 hO dX7_take_246 ?_
      refine zg_getfi0 (c := 7) hO (zM_0 hM3) (by decide) (by decide) (by decide) zf_X7_16 rfl dX7_take_247 ?_
      refine zr_icmp_ge (tgt := 310) hO dX7_take_250 (by decide) (fun c250 => ?_) (fun c250 => ?_)
      · refine zr_iconst (v := 0) hO dX7_take_310 (by decide) ?_
        refine zr_istore_6 hO dX7_take_311 (by decide) rfl ?_
        refine z_for (P := fun k s => zV G X 8 0 0 (fun x => n3 ≤ x) ly3 τ (zwr (z3 σ q1 q2 q3 (mF_left M).1 P T) o 103 s) 313 [some (.ref o), some (.ref q1), some (.ref q2), some (.ref q3), some (.int (nI c)), none, some (.int (nI k)), none, none] []) c (mB_give T) (fun k s => zk M s ∧ s = mF_gives T k (mF_keep T c M)) (mF_keep T c M) ⟨zk_keep (zk_r hW) T c, rfl⟩ (fun i s hi h => ⟨zk_give1 h.1 (hTin i hi), by rw [h.2]; unfold mF_gives; rw [List.range_succ, List.foldl_append]; rfl⟩) ?_ ?_
        · intro k s hk hIk ih
          have hk3 : k < 3 := by omega
          refine zr_iload_6 hO dX7_take_313 ?_
          refine zr_iload_4 hO dX7_take_315 ?_
          refine zr_icmp_ge (tgt := 347) hO dX7_take_317 (by decide) (fun c317 => ?_) (fun c317 => ?_)
          · exact absurd (nI_lt hk (by omega)) c317
          · refine zr_aload_0 hO dX7_take_320 ?_
            refine zr_getfr (c := 7) hO (by decide) (by decide) zf_X7_46 (zM_0 hM3) rfl rfl dX7_take_321 ?_
            refine zr_aload_3 hO dX7_take_324 ?_
            refine zr_iload_6 hO dX7_take_325 ?_
            refine zt_ald3N hO hQ (by omega) dX7_take_327 ?_
            refine zg_iald hO (zM_41 hM3) (by decide) (by first | assumption | exact hbin c261 | exact hTin _ hk) dX7_take_328 ?_
            refine zr_iconst (v := 2) hO dX7_take_329 (by decide) ?_
            refine zV_pc (pc' := 330) rfl ?_
            refine zr_icmp_eq (tgt := 341) hO dX7_take_330 (by decide) (fun c330 => ?_) (fun c330 => ?_)
            · refine zr_iinc_6 (v := 1) hO dX7_take_341 (by decide) (by decide) rfl ?_
              refine zr_goto (tgt := 313) hO dX7_take_344 (by decide) ?_
              rw [nI_1]
              simp only [mB_give, if_pos c317, if_pos c330] at ih
              first | exact ih | contradiction
            · refine zr_aload_0 hO dX7_take_333 ?_
              refine zr_aload_3 hO dX7_take_334 ?_
              refine zr_iload_6 hO dX7_take_335 ?_
              refine zt_ald3N hO hQ (by omega) dX7_take_337 ?_
              refine zr_V1 (D := d) hO hRm hL (by omega) (by decide) (c := 7) (by decide) (zM_0 hM3) rfl rfl (e_X7_give (d := d - 1) htr hM3 (by omega) (hTin _ hk) (hgv _ hk (by rw [← hIk.2]; exact c330) _ hIk.2)) zl_X7_177 zi_X7_give zs_X7_give zc_X7_give zn_X7 zd_X7_give (Nat.le_of_ble_eq_true rfl) dX7_take_338 (by omega) (by omega) ?_
              refine zr_iinc_6 (v := 1) hO dX7_take_341 (by decide) (by decide) rfl ?_
              refine zr_goto (tgt := 313) hO dX7_take_344 (by decide) ?_
              rw [nI_1]
              simp only [mB_give, if_pos c317, if_neg c330] at ih
              first | exact ih | contradiction
        · intro hIk
          refine zr_iload_6 hO dX7_take_313 ?_
          refine zr_iload_4 hO dX7_take_315 ?_
          refine zr_icmp_ge (tgt := 347) hO dX7_take_317 (by decide) (fun c317 => ?_) (fun c317 => ?_)
          · refine zV_to (ly' := ly) (τ' := τ) (σ' := zwr σ o 103 (mF_gives T c (mF_keep T c M))) (fun a => ?_) (zV_S (S' := fun x => n ≤ x) (fun z hz => by omega) ?_)
            · rcases hout a with h | ⟨h1, h2, h3, h4⟩
              · exact Or.inl h
              · exact Or.inr ⟨h4, (z3_o σ _ _ _ _ h1 h2 h3).symm, rfl⟩
            show zV G X 8 0 0 (fun x => n ≤ x) ly τ (zwr σ o 103 (mF_gives T c (mF_keep T c M))) 347 _ _
            exact zr_return hO hE dX7_take_347 (zpl_v rfl)
          · exact absurd c317 Int32.lt_irrefl
      · exact absurd c250 (by rw [hIk.2 0 6 rfl]; exact zlt_F (zmW_p hW))
  have key89 : ∀ (f : Nat) (left : Int32) (c0 : Nat) (P T0 : Nat → Int32), (∀ k, k < c0 → vp_in (T0 k) 16) → c0 ≤ 3 → mF_tk M (mF_left M).1 f left c0 P T0 = some (c, T) → zV G X 8 0 0 (fun x => n3 ≤ x) ly3 τ (zwr (z3 σ q1 q2 q3 (mF_left M).1 P T0) o 103 M) 89 [some (.ref o), some (.ref q1), some (.ref q2), some (.ref q3), some (.int (nI c0)), some (.int left), none, none, none] [] := by
    intro f
    induction f with
    | zero => intro left c0 P T0 _ _ h; cases h
    | succ f ih =>
      intro left c0 P T0 hT0 hc0 h
      rw [mF_tk] at h
      refine zr_iload_5 hO dX7_take_89 ?_
      refine zr_if_eq (tgt := 241) hO dX7_take_91 (by decide) (fun c91 => ?_) (fun c91 => ?_)
      · refine zV_d5 ?_
        rw [if_pos c91] at h
        cases h
        exact key241 P
      · refine zr_iload_4 hO dX7_take_94 ?_
        refine zr_aload_0 hO dX7_take_96 ?_
        refine zg_getfi0 (c := 7) hO (zM_0 hM3) (by decide) (by decide) (by decide) zf_X7_16 rfl dX7_take_97 ?_
        refine zr_icmp_ge (tgt := 241) hO dX7_take_100 (by decide) (fun c100 => ?_) (fun c100 => ?_)
        · refine zV_d5 ?_
          rw [if_neg c91, if_neg c100] at h
          cases h
          exact key241 P
        · refine zr_iconst (v := (-1)) hO dX7_take_103 (by decide) ?_
          refine zr_istore_6 hO dX7_take_104 (by decide) rfl ?_
          refine zr_iconst (v := 0) hO dX7_take_106 (by decide) ?_
          refine zr_istore_7 hO dX7_take_107 (by decide) rfl ?_
          refine z_for (P := fun k s => zV G X 8 0 0 (fun x => n3 ≤ x) ly3 τ (zwr (z3 σ q1 q2 q3 (mF_left M).1 P T0) o 103 M) 109 [some (.ref o), some (.ref q1), some (.ref q2), some (.ref q3), some (.int (nI c0)), some (.int left), some (.int s), some (.int (nI k)), none] []) (ix (M 0 15)) (mB_best M (mF_left M).1 left) (fun _ s => zr1 s (-1) 15) (-1) ⟨by decide, by decide⟩ (fun i s hi hs => zr_best1 M (mF_left M).1 left (by have := zmW_n16 hW; omega) hs) ?_ ?_
          · intro k s hk hIk ih
            have hk16 : k < 16 := by have := zmW_n16 hW; omega
            refine zr_iload_7 hO dX7_take_109 ?_
            refine zr_aload_0 hO dX7_take_111 ?_
            refine zg_getfi0 (c := 7) hO (zM_0 hM3) (by decide) (by decide) (by decide) zf_X7_110 rfl dX7_take_112 ?_
            refine zr_icmp_ge (tgt := 163) hO dX7_take_115 (by decide) (fun c115 => ?_) (fun c115 => ?_)
            · exact absurd (zlt_T (zmW_n hW) hk) c115
            · refine zr_iload_5 hO dX7_take_118 ?_
              refine zr_iload_7 hO dX7_take_120 ?_
              refine zr_ishr hO dX7_take_122 ?_
              refine zr_iconst (v := 1) hO dX7_take_123 (by decide) ?_
              refine zr_iand hO dX7_take_124 ?_
              refine zr_if_eq (tgt := 157) hO dX7_take_125 (by decide) (fun c125 => ?_) (fun c125 => ?_)
              · refine zr_iinc_7 (v := 1) hO dX7_take_157 (by decide) (by decide) rfl ?_
                refine zr_goto (tgt := 109) hO dX7_take_160 (by decide) ?_
                rw [nI_1]
                simp only [mB_best, if_pos c115, if_pos c125] at ih
                first | exact ih | contradiction
              · refine zr_iload_6 hO dX7_take_128 ?_
                refine zr_iconst (v := (-1)) hO dX7_take_130 (by decide) ?_
                refine zr_icmp_eq (tgt := 153) hO dX7_take_131 (by decide) (fun c131 => ?_) (fun c131 => ?_)
                · refine zr_iload_7 hO dX7_take_153 ?_
                  refine zr_istore_6 hO dX7_take_155 (by decide) rfl ?_
                  refine zr_iinc_7 (v := 1) hO dX7_take_157 (by decide) (by decide) rfl ?_
                  refine zr_goto (tgt := 109) hO dX7_take_160 (by decide) ?_
                  rw [nI_1]
                  simp only [mB_best, if_pos c115, if_neg c125, if_pos c131] at ih
                  first | exact ih | contradiction
                · refine zr_aload_0 hO dX7_take_134 ?_
                  refine zr_iload_7 hO dX7_take_135 ?_
                  refine zr_aload_1 hO dX7_take_137 ?_
                  refine zr_iload_7 hO dX7_take_138 ?_
                  refine zt_ald1N hO hQ (by omega) dX7_take_140 ?_
                  refine zr_iload_6 hO dX7_take_141 ?_
                  refine zr_aload_1 hO dX7_take_143 ?_
                  refine zV_pc (pc' := 144) rfl ?_
                  refine zr_iload_6 hO dX7_take_144 ?_
                  refine zt_ald1 hO hQ (by first | assumption | exact hbin | exact zin_r (a := 0) (b := 3) (hW 4 _) (by decide) (by decide) | exact zin_m1 hIk (by decide) c131) dX7_take_146 ?_
                  refine zr_V4 (D := d) hO hRm hL (by omega) (by decide) (c := 7) (by decide) (zM_0 hM3) rfl rfl (e_X7_isAhead (d := d - 1) htr hM3 (by omega) (vp_in_nI (by omega) (by decide)) (zin_m1 hIk (by decide) c131)) zl_X7_169 zi_X7_isAhead zs_X7_isAhead zc_X7_isAhead zn_X7 zd_X7_isAhead (Nat.le_of_ble_eq_true rfl) dX7_take_147 (by omega) (by omega) ?_
                  refine zr_ifb_eq (tgt := 157) hO dX7_take_150 (by decide) (fun c150 => ?_) (fun c150 => ?_)
                  · refine zr_iinc_7 (v := 1) hO dX7_take_157 (by decide) (by decide) rfl ?_
                    refine zr_goto (tgt := 109) hO dX7_take_160 (by decide) ?_
                    rw [nI_1]
                    simp only [mB_best, if_pos c115, if_neg c125, if_neg c131, if_neg (zif_f c150)] at ih
                    first | exact ih | contradiction
                  · refine zr_iload_7 hO dX7_take_153 ?_
                    refine zr_istore_6 hO dX7_take_155 (by decide) rfl ?_
                    refine zr_iinc_7 (v := 1) hO dX7_take_157 (by decide) (by decide) rfl ?_
                    refine zr_goto (tgt := 109) hO dX7_take_160 (by decide) ?_
                    rw [nI_1]
                    simp only [mB_best, if_pos c115, if_neg c125, if_neg c131, if_pos c150] at ih
                    first | exact ih | contradiction
          · intro hIk
            refine zr_iload_7 hO dX7_take_109 ?_
            refine zr_aload_0 hO dX7_take_111 ?_
            refine zg_getfi0 (c := 7) hO (zM_0 hM3) (by decide) (by decide) (by decide) zf_X7_110 rfl dX7_take_112 ?_
            refine zr_icmp_ge (tgt := 163) hO dX7_take_115 (by decide) (fun c115 => ?_) (fun c115 => ?_)
            · have hbst : (List.range (ix (M 0 15))).foldl (fun s i => mB_best M (mF_left M).1 left i s) (-1) = (mF_best M (mF_left M).1 left) := rfl
              rw [hbst]
              rw [if_neg c91, if_pos c100] at h
              by_cases hb1 : (mF_best M (mF_left M).1 left) = -1
              · rw [if_pos hb1] at h; cases h
              rw [if_neg hb1] at h
              have hbin : vp_in (mF_best M (mF_left M).1 left) 16 := zin_m1 (zr_best hW _ _) (by decide) hb1
              have hc2 : c0 + 1 ≤ 3 := by
                have h6 : (M 0 6).toInt ≤ 3 := (hW 0 6).2
                have h7 := c100
                rw [Int32.lt_iff_toInt_lt, nI_toInt (by omega)] at h7
                omega
              have hT2 : ∀ k, k < c0 + 1 → vp_in (upd T0 c0 (mF_best M (mF_left M).1 left) k) 16 := by
                intro k hk
                unfold upd
                split
                · exact hbin
                · exact hT0 k (by omega)
              refine zr_iload_5 hO dX7_take_163 ?_
              refine zr_iconst (v := 1) hO dX7_take_165 (by decide) ?_
              refine zr_iload_6 hO dX7_take_166 ?_
              refine zr_ishl hO dX7_take_168 ?_
              refine zr_iconst (v := (-1)) hO dX7_take_169 (by decide) ?_
              refine zr_ixor hO dX7_take_170 ?_
              refine zr_iand hO dX7_take_171 ?_
              refine zV_pc (pc' := 172) rfl ?_
              refine zr_istore_5 hO dX7_take_172 (by decide) rfl ?_
              refine zr_aload_0 hO dX7_take_174 ?_
              refine zr_getfr (c := 7) hO (by decide) (by decide) zf_X7_19 (zM_0 hM3) rfl rfl dX7_take_175 ?_
              refine zr_aload_0 hO dX7_take_178 ?_
              refine zr_getfr (c := 7) hO (by decide) (by decide) zf_X7_29 (zM_0 hM3) rfl rfl dX7_take_179 ?_
              refine zr_iload_6 hO dX7_take_182 ?_
              refine zg_iald hO (zM_4 hM3) (by decide) (by first | assumption | exact hbin | exact zin_r (a := 0) (b := 3) (hW 4 _) (by decide) (by decide) | exact zin_m1 hIk (by decide) c131) dX7_take_184 ?_
              refine zV_pc (pc' := 185) rfl ?_
              refine zg_iald hO (zM_1 hM3) (by decide) (by first | assumption | exact hbin | exact zin_r (a := 0) (b := 3) (hW 4 _) (by decide) (by decide) | exact zin_m1 hIk (by decide) c131) dX7_take_185 ?_
              refine zr_if_le (tgt := 216) hO dX7_take_186 (by decide) (fun c186 => ?_) (fun c186 => ?_)
              · refine zr_aload_2 hO dX7_take_216 ?_
                refine zr_aload_0 hO dX7_take_217 ?_
                refine zr_getfr (c := 7) hO (by decide) (by decide) zf_X7_29 (zM_0 hM3) rfl rfl dX7_take_218 ?_
                refine zr_iload_6 hO dX7_take_221 ?_
                refine zg_iald hO (zM_4 hM3) (by decide) (by first | assumption | exact hbin | exact zin_r (a := 0) (b := 3) (hW 4 _) (by decide) (by decide) | exact zin_m1 hIk (by decide) c131) dX7_take_223 ?_
                refine zr_dup2 hO dX7_take_224 rfl rfl ?_
                refine zt_ald2 hO hQ (by first | assumption | exact hbin | exact zin_r (a := 0) (b := 3) (hW 4 _) (by decide) (by decide) | exact zin_m1 hIk (by decide) c131) dX7_take_225 ?_
                refine zV_pc (pc' := 226) rfl ?_
                refine zr_iconst (v := 1) hO dX7_take_226 (by decide) ?_
                refine zr_iadd hO dX7_take_227 ?_
                refine zt_ast2 hO hQ (by first | assumption | exact hbin | exact zin_r (a := 0) (b := 3) (hW 4 _) (by decide) (by decide) | exact zin_m1 hIk (by decide) c131) dX7_take_228 ?_
                refine zr_aload_3 hO dX7_take_229 ?_
                refine zr_iload_4 hO dX7_take_230 ?_
                refine zr_iload_6 hO dX7_take_232 ?_
                refine zt_ast3N hO hQ (by omega) dX7_take_234 ?_
                refine zV_pc (pc' := 235) rfl ?_
                refine zr_iinc_4 (v := 1) hO dX7_take_235 (by decide) (by decide) rfl ?_
                refine zr_goto (tgt := 89) hO dX7_take_238 (by decide) ?_
                refine zV_d6 ?_
                refine zV_d7 ?_
                rw [if_neg c186] at h
                rw [nI_1]
                exact ih _ _ _ _ hT2 hc2 h
              · refine zr_aload_2 hO dX7_take_189 ?_
                refine zr_aload_0 hO dX7_take_190 ?_
                refine zr_getfr (c := 7) hO (by decide) (by decide) zf_X7_29 (zM_0 hM3) rfl rfl dX7_take_191 ?_
                refine zr_iload_6 hO dX7_take_194 ?_
                refine zg_iald hO (zM_4 hM3) (by decide) (by first | assumption | exact hbin | exact zin_r (a := 0) (b := 3) (hW 4 _) (by decide) (by decide) | exact zin_m1 hIk (by decide) c131) dX7_take_196 ?_
                refine zt_ald2 hO hQ (by first | assumption | exact hbin | exact zin_r (a := 0) (b := 3) (hW 4 _) (by decide) (by decide) | exact zin_m1 hIk (by decide) c131) dX7_take_197 ?_
                refine zr_aload_0 hO dX7_take_198 ?_
                refine zV_pc (pc' := 199) rfl ?_
                refine zr_getfr (c := 7) hO (by decide) (by decide) zf_X7_19 (zM_0 hM3) rfl rfl dX7_take_199 ?_
                refine zr_aload_0 hO dX7_take_202 ?_
                refine zr_getfr (c := 7) hO (by decide) (by decide) zf_X7_29 (zM_0 hM3) rfl rfl dX7_take_203 ?_
                refine zr_iload_6 hO dX7_take_206 ?_
                refine zg_iald hO (zM_4 hM3) (by decide) (by first | assumption | exact hbin | exact zin_r (a := 0) (b := 3) (hW 4 _) (by decide) (by decide) | exact zin_m1 hIk (by decide) c131) dX7_take_208 ?_
                refine zg_iald hO (zM_1 hM3) (by decide) (by first | assumption | exact hbin | exact zin_r (a := 0) (b := 3) (hW 4 _) (by decide) (by decide) | exact zin_m1 hIk (by decide) c131) dX7_take_209 ?_
                refine zr_icmp_lt (tgt := 216) hO dX7_take_210 (by decide) (fun c210 => ?_) (fun c210 => ?_)
                · refine zr_aload_2 hO dX7_take_216 ?_
                  refine zr_aload_0 hO dX7_take_217 ?_
                  refine zr_getfr (c := 7) hO (by decide) (by decide) zf_X7_29 (zM_0 hM3) rfl rfl dX7_take_218 ?_
                  refine zr_iload_6 hO dX7_take_221 ?_
                  refine zg_iald hO (zM_4 hM3) (by decide) (by first | assumption | exact hbin | exact zin_r (a := 0) (b := 3) (hW 4 _) (by decide) (by decide) | exact zin_m1 hIk (by decide) c131) dX7_take_223 ?_
                  refine zr_dup2 hO dX7_take_224 rfl rfl ?_
                  refine zt_ald2 hO hQ (by first | assumption | exact hbin | exact zin_r (a := 0) (b := 3) (hW 4 _) (by decide) (by decide) | exact zin_m1 hIk (by decide) c131) dX7_take_225 ?_
                  refine zV_pc (pc' := 226) rfl ?_
                  refine zr_iconst (v := 1) hO dX7_take_226 (by decide) ?_
                  refine zr_iadd hO dX7_take_227 ?_
                  refine zt_ast2 hO hQ (by first | assumption | exact hbin | exact zin_r (a := 0) (b := 3) (hW 4 _) (by decide) (by decide) | exact zin_m1 hIk (by decide) c131) dX7_take_228 ?_
                  refine zr_aload_3 hO dX7_take_229 ?_
                  refine zr_iload_4 hO dX7_take_230 ?_
                  refine zr_iload_6 hO dX7_take_232 ?_
                  refine zt_ast3N hO hQ (by omega) dX7_take_234 ?_
                  refine zV_pc (pc' := 235) rfl ?_
                  refine zr_iinc_4 (v := 1) hO dX7_take_235 (by decide) (by decide) rfl ?_
                  refine zr_goto (tgt := 89) hO dX7_take_238 (by decide) ?_
                  refine zV_d6 ?_
                  refine zV_d7 ?_
                  rw [if_pos c186, if_pos c210] at h
                  rw [nI_1]
                  exact ih _ _ _ _ hT2 hc2 h
                · refine zr_goto (tgt := 89) hO dX7_take_213 (by decide) ?_
                  refine zV_d6 ?_
                  refine zV_d7 ?_
                  rw [if_pos c186, if_neg c210] at h
                  exact ih _ _ _ _ hT0 hc0 h
            · exact absurd c115 (zlt_F (zmW_n hW))
  refine zr_iconst (v := 0) hO dX7_take_20 (by decide) ?_
  refine zr_istore_4 hO dX7_take_21 (by decide) rfl ?_
  rw [← nI_0]
  refine zr_iconst (v := 0) hO dX7_take_23 (by decide) ?_
  refine zr_istore_5 hO dX7_take_24 (by decide) rfl ?_
  refine zr_iconst (v := 0) hO dX7_take_26 (by decide) ?_
  refine zr_istore_6 hO dX7_take_27 (by decide) rfl ?_
  refine z_for (P := fun k s => zV G X 8 0 0 (fun x => n3 ≤ x) ly3 τ (zwr (z3 σ q1 q2 q3 s.1 (M 2) (fun _ => 0)) o 103 M) 29 [some (.ref o), some (.ref q1), some (.ref q2), some (.ref q3), some (.int (nI 0)), some (.int s.2), some (.int (nI k)), none, none] []) (ix (M 0 15)) (mB_left M) (fun _ _ => True) ((fun _ => 0), 0) trivial (fun _ _ _ _ => trivial) ?_ ?_
  · intro k s hk hIk ih
    have hk16 : k < 16 := by have := zmW_n16 hW; omega
    refine zr_iload_6 hO dX7_take_29 ?_
    refine zr_aload_0 hO dX7_take_31 ?_
    refine zg_getfi0 (c := 7) hO (zM_0 hM3) (by decide) (by decide) (by decide) zf_X7_110 rfl dX7_take_32 ?_
    refine zr_icmp_ge (tgt := 89) hO dX7_take_35 (by decide) (fun c35 => ?_) (fun c35 => ?_)
    · exact absurd (zlt_T (zmW_n hW) hk) c35
    · refine zr_aload_1 hO dX7_take_38 ?_
      refine zr_iload_6 hO dX7_take_39 ?_
      refine zr_aload_0 hO dX7_take_41 ?_
      refine zr_iload_6 hO dX7_take_42 ?_
      refine zr_V1 (D := d) hO hRm hL (by omega) (by decide) (c := 7) (by decide) (zM_0 hM3) rfl rfl (e_X7_lentNow (d := d - 1) htr hM3 (by omega) hW (vp_in_nI (by omega) (by decide))) zl_X7_150 zi_X7_lentNow zs_X7_lentNow zc_X7_lentNow zn_X7 zd_X7_lentNow (Nat.le_of_ble_eq_true rfl) dX7_take_44 (by omega) (by omega) ?_
      refine zt_ast1N hO hQ (by omega) dX7_take_47 ?_
      refine zr_iload_5 hO dX7_take_48 ?_
      refine zV_pc (pc' := 50) rfl ?_
      refine zr_aload_0 hO dX7_take_50 ?_
      refine zr_getfr (c := 7) hO (by decide) (by decide) zf_X7_46 (zM_0 hM3) rfl rfl dX7_take_51 ?_
      refine zr_iload_6 hO dX7_take_54 ?_
      refine zg_ialdN hO (zM_41 hM3) (by decide) (by omega) (by decide) dX7_take_56 ?_
      refine zr_iconst (v := 1) hO dX7_take_57 (by decide) ?_
      refine zr_icmp_eq (tgt := 72) hO dX7_take_58 (by decide) (fun c58 => ?_) (fun c58 => ?_)
      · refine zr_iconst (v := 1) hO dX7_take_72 (by decide) ?_
        refine zr_iload_6 hO dX7_take_73 ?_
        refine zr_ishl hO dX7_take_75 ?_
        refine zr_goto (tgt := 80) hO dX7_take_76 (by decide) ?_
        refine zr_ior hO dX7_take_80 ?_
        refine zr_istore_5 hO dX7_take_81 (by decide) rfl ?_
        refine zr_iinc_6 (v := 1) hO dX7_take_83 (by decide) (by decide) rfl ?_
        refine zV_pc (pc' := 86) rfl ?_
        refine zr_goto (tgt := 29) hO dX7_take_86 (by decide) ?_
        rw [nI_1]
        simp only [mB_left, if_pos c35, if_pos c58] at ih
        first | exact ih | contradiction
      · refine zr_aload_0 hO dX7_take_61 ?_
        refine zr_getfr (c := 7) hO (by decide) (by decide) zf_X7_46 (zM_0 hM3) rfl rfl dX7_take_62 ?_
        refine zr_iload_6 hO dX7_take_65 ?_
        refine zg_ialdN hO (zM_41 hM3) (by decide) (by omega) (by decide) dX7_take_67 ?_
        refine zr_iconst (v := 2) hO dX7_take_68 (by decide) ?_
        refine zr_icmp_ne (tgt := 79) hO dX7_take_69 (by decide) (fun c69 => ?_) (fun c69 => ?_)
        · refine zr_iconst (v := 0) hO dX7_take_79 (by decide) ?_
          refine zr_ior hO dX7_take_80 ?_
          refine zr_istore_5 hO dX7_take_81 (by decide) rfl ?_
          refine zr_iinc_6 (v := 1) hO dX7_take_83 (by decide) (by decide) rfl ?_
          refine zr_goto (tgt := 29) hO dX7_take_86 (by decide) ?_
          rw [nI_1]
          simp only [mB_left, if_pos c35, if_neg c58, if_neg c69] at ih
          first | exact ih | contradiction
        · refine zr_iconst (v := 1) hO dX7_take_72 (by decide) ?_
          refine zr_iload_6 hO dX7_take_73 ?_
          refine zr_ishl hO dX7_take_75 ?_
          refine zr_goto (tgt := 80) hO dX7_take_76 (by decide) ?_
          refine zr_ior hO dX7_take_80 ?_
          refine zr_istore_5 hO dX7_take_81 (by decide) rfl ?_
          refine zr_iinc_6 (v := 1) hO dX7_take_83 (by decide) (by decide) rfl ?_
          refine zV_pc (pc' := 86) rfl ?_
          refine zr_goto (tgt := 29) hO dX7_take_86 (by decide) ?_
          rw [nI_1]
          simp only [mB_left, if_pos c35, if_neg c58, if_pos c69] at ih
          first | exact ih | contradiction
  · intro hIk
    refine zr_iload_6 hO dX7_take_29 ?_
    refine zr_aload_0 hO dX7_take_31 ?_
    refine zg_getfi0 (c := 7) hO (zM_0 hM3) (by decide) (by decide) (by decide) zf_X7_110 rfl dX7_take_32 ?_
    refine zr_icmp_ge (tgt := 89) hO dX7_take_35 (by decide) (fun c35 => ?_) (fun c35 => ?_)
    · refine zV_d6 ?_
      exact key89 f _ 0 _ _ (fun k hk => absurd hk (Nat.not_lt_zero k)) (by decide) htk
    · exact absurd c35 (zlt_F (zmW_n hW))
