set_option maxRecDepth 100000 in
set_option maxHeartbeats 8000000 in
theorem e_X7_copy {l : Launch} {G : zGm} {d n o : Nat} {ly : zLy} {τ : zTu} {σ M : zSg} (htr : l.stackTraces = false) (hM : zM ly o) (hd : 2 ≤ d) (hW : zmW M) (hon : o + 103 ≤ n) (hz : ∀ a, n ≤ a → (ly a).1 = 0) :
    zEv l G d 105 1089 (yX7_copy, cX7_copy, 5, some (.object "BeadleKernelModel")) [.ref o] (fun x => n ≤ x) ly τ (zwr σ o 103 M)
      (fun r z ly' τ' σ' => ∃ q : Nat, r = .inl (some (.ref q)) ∧ n ≤ q ∧ q + 103 ≤ z ∧ zM ly' q ∧ (∀ a, a < q → ly' a = ly a) ∧ (∀ a, q + 103 ≤ a → (ly' a).1 = 0) ∧ (∀ a, a < q → τ' a = τ a) ∧ σ' = zwr (zwr σ o 103 M) q 103 (mF_copy M)) := by
  refine zEv_of (ls := [some (.ref o), none, none, none, none, none, none, none, none]) htr (by decide) (Nat.le_of_ble_eq_true rfl) rfl (fun X hO hE hN hRm hL hNm => ?_)
  have hO : zOk G X RX7 cX7_copy 5 := hO
  refine zr_new (c := 7) hO (by decide) zk_X7_8 zj_X7 zn_X7 (by decide) (by decide) dX7_copy_0 (fun q hq => ?_)
  refine zr_dup hO dX7_copy_3 rfl ?_
  rw [zwr_one]
  refine z_callI (D := d) (As := []) hO hRm hL (by omega) (by decide) rfl rfl (e_X7_init (d := d - 1) htr (zlk_eq ly q (7 + 5, 39, znr)) (by omega)) zl_X7_94 zi_X7_init zc_X7_init zn_X7 zd_X7_init (Nat.le_of_ble_eq_true rfl) dX7_copy_4 (by decide) (by decide) (fun E z ly' τ' σ' h => by cases h.1) (fun v z ly' τ' σ' h => ?_)
  obtain ⟨h1, hz1, hQ1, hout, rfl, rfl⟩ := h
  cases h1
  subst hz1
  show zV G X 5 _ _ _ ly' _ _ 7 _ [.ref q]
  have hM1 : zM ly' o := fun f hf => by rw [hout _ (by omega), zlk_ne _ _ (by omega)]; exact hM f hf
  have hlow : ∀ a, a < q → ly' a = ly a := fun a ha => by rw [hout _ (by omega), zlk_ne _ _ (by omega)]
  have hhi : ∀ a, q + 103 ≤ a → (ly' a).1 = 0 := fun a ha => by rw [hout _ (by omega), zlk_ne _ _ (by omega)]; exact hz a (by omega)
  have hτ : ∀ a, a < q → (zrowL τ q (fun _ => 0)) a = τ a := fun a ha => zrowL_ne _ _ (by omega)
  generalize zrowL τ q (fun _ => 0) = τ1 at hτ ⊢
  refine zr_astore_1 hO dX7_copy_7 (by decide) rfl ?_
  refine zr_aload_1 hO dX7_copy_8 ?_
  refine zr_aload_0 hO dX7_copy_9 ?_
  refine zq_getfi hO (by omega) hM1 (by decide) zf_X7_95 rfl dX7_copy_10 ?_
  refine zg_putfi0 (c := 7) hO (zM_0 hQ1) (by decide) (by decide) (by decide) zf_X7_95 rfl rfl dX7_copy_13 ?_
  refine zr_aload_1 hO dX7_copy_16 ?_
  refine zr_aload_0 hO dX7_copy_17 ?_
  refine zq_getfi hO (by omega) hM1 (by decide) zf_X7_98 rfl dX7_copy_18 ?_
  refine zg_putfi0 (c := 7) hO (zM_0 hQ1) (by decide) (by decide) (by decide) zf_X7_98 rfl rfl dX7_copy_21 ?_
  refine zr_aload_1 hO dX7_copy_24 ?_
  refine zr_aload_0 hO dX7_copy_25 ?_
  refine zq_getfi hO (by omega) hM1 (by decide) zf_X7_7 rfl dX7_copy_26 ?_
  refine zg_putfi0 (c := 7) hO (zM_0 hQ1) (by decide) (by decide) (by decide) zf_X7_7 rfl rfl dX7_copy_29 ?_
  refine zr_aload_1 hO dX7_copy_32 ?_
  refine zr_aload_0 hO dX7_copy_33 ?_
  refine zq_getfi hO (by omega) hM1 (by decide) zf_X7_101 rfl dX7_copy_34 ?_
  refine zg_putfi0 (c := 7) hO (zM_0 hQ1) (by decide) (by decide) (by decide) zf_X7_101 rfl rfl dX7_copy_37 ?_
  refine zr_aload_1 hO dX7_copy_40 ?_
  refine zr_aload_0 hO dX7_copy_41 ?_
  refine zq_getfi hO (by omega) hM1 (by decide) zf_X7_13 rfl dX7_copy_42 ?_
  refine zg_putfi0 (c := 7) hO (zM_0 hQ1) (by decide) (by decide) (by decide) zf_X7_13 rfl rfl dX7_copy_45 ?_
  refine zr_aload_1 hO dX7_copy_48 ?_
  refine zr_aload_0 hO dX7_copy_49 ?_
  refine zq_getfi hO (by omega) hM1 (by decide) zf_X7_16 rfl dX7_copy_50 ?_
  refine zg_putfi0 (c := 7) hO (zM_0 hQ1) (by decide) (by decide) (by decide) zf_X7_16 rfl rfl dX7_copy_53 ?_
  refine zr_aload_1 hO dX7_copy_56 ?_
  refine zr_aload_0 hO dX7_copy_57 ?_
  refine zq_getfi hO (by omega) hM1 (by decide) zf_X7_104 rfl dX7_copy_58 ?_
  refine zg_putfi0 (c := 7) hO (zM_0 hQ1) (by decide) (by decide) (by decide) zf_X7_104 rfl rfl dX7_copy_61 ?_
  refine zr_aload_1 hO dX7_copy_64 ?_
  refine zr_aload_0 hO dX7_copy_65 ?_
  refine zq_getfi hO (by omega) hM1 (by decide) zf_X7_107 rfl dX7_copy_66 ?_
  refine zg_putfi0 (c := 7) hO (zM_0 hQ1) (by decide) (by decide) (by decide) zf_X7_107 rfl rfl dX7_copy_69 ?_
  refine zr_aload_1 hO dX7_copy_72 ?_
  refine zr_aload_0 hO dX7_copy_73 ?_
  refine zq_getfi hO (by omega) hM1 (by decide) zf_X7_110 rfl dX7_copy_74 ?_
  refine zg_putfi0 (c := 7) hO (zM_0 hQ1) (by decide) (by decide) (by decide) zf_X7_110 rfl rfl dX7_copy_77 ?_
  refine zV_pc (pc' := 80) rfl ?_
  show zV G X 5 _ _ _ ly' τ1 (zwr (zwr σ o 103 M) q 103 (mF_cset M)) 80 _ _
  refine zr_bipush (v := 20) hO dX7_copy_80 (by decide) ?_
  refine zr_newII (N := 20) hO zk_X7_113 (by decide) (by decide) (by decide) (by decide) (by decide) dX7_copy_82 (fun a9 ha9 => ?_)
  refine zr_dup hO dX7_copy_85 rfl ?_
  refine zr_iconst (v := 0) hO dX7_copy_86 (by decide) ?_
  refine zr_aload_0 hO dX7_copy_87 ?_
  refine zr_getfr (c := 7) hO (by decide) (by decide) zf_X7_19 (zM_0 (zM_lk hM1 (by omega))) rfl rfl dX7_copy_88 ?_
  refine zq_aast hO (by omega) (zM_1 hM1) (zin_i ⟨by decide, by decide⟩) dX7_copy_91 ?_
  refine zr_dup hO dX7_copy_92 rfl ?_
  refine zr_iconst (v := 1) hO dX7_copy_93 (by decide) ?_
  refine zr_aload_0 hO dX7_copy_94 ?_
  refine zr_getfr (c := 7) hO (by decide) (by decide) zf_X7_23 (zM_0 (zM_lk hM1 (by omega))) rfl rfl dX7_copy_95 ?_
  refine zq_aast hO (by omega) (zM_2 hM1) (zin_i ⟨by decide, by decide⟩) dX7_copy_98 ?_
  refine zr_dup hO dX7_copy_99 rfl ?_
  refine zr_iconst (v := 2) hO dX7_copy_100 (by decide) ?_
  refine zr_aload_0 hO dX7_copy_101 ?_
  refine zr_getfr (c := 7) hO (by decide) (by decide) zf_X7_26 (zM_0 (zM_lk hM1 (by omega))) rfl rfl dX7_copy_102 ?_
  refine zq_aast hO (by omega) (zM_3 hM1) (zin_i ⟨by decide, by decide⟩) dX7_copy_105 ?_
  refine zr_dup hO dX7_copy_106 rfl ?_
  refine zr_iconst (v := 3) hO dX7_copy_107 (by decide) ?_
  refine zr_aload_0 hO dX7_copy_108 ?_
  refine zr_getfr (c := 7) hO (by decide) (by decide) zf_X7_29 (zM_0 (zM_lk hM1 (by omega))) rfl rfl dX7_copy_109 ?_
  refine zq_aast hO (by omega) (zM_4 hM1) (zin_i ⟨by decide, by decide⟩) dX7_copy_112 ?_
  refine zr_dup hO dX7_copy_113 rfl ?_
  refine zr_iconst (v := 4) hO dX7_copy_114 (by decide) ?_
  refine zr_aload_0 hO dX7_copy_115 ?_
  refine zr_getfr (c := 7) hO (by decide) (by decide) zf_X7_32 (zM_0 (zM_lk hM1 (by omega))) rfl rfl dX7_copy_116 ?_
  refine zq_aast hO (by omega) (zM_5 hM1) (zin_i ⟨by decide, by decide⟩) dX7_copy_119 ?_
  refine zV_pc (pc' := 120) rfl ?_
  refine zr_dup hO dX7_copy_120 rfl ?_
  refine zr_iconst (v := 5) hO dX7_copy_121 (by decide) ?_
  refine zr_aload_0 hO dX7_copy_122 ?_
  refine zr_getfr (c := 7) hO (by decide) (by decide) zf_X7_35 (zM_0 (zM_lk hM1 (by omega))) rfl rfl dX7_copy_123 ?_
  refine zq_aast hO (by omega) (zM_6 hM1) (zin_i ⟨by decide, by decide⟩) dX7_copy_126 ?_
  refine zr_dup hO dX7_copy_127 rfl ?_
  refine zr_bipush (v := 6) hO dX7_copy_128 (by decide) ?_
  refine zr_aload_0 hO dX7_copy_130 ?_
  refine zr_getfr (c := 7) hO (by decide) (by decide) zf_X7_46 (zM_0 (zM_lk hM1 (by omega))) rfl rfl dX7_copy_131 ?_
  refine zq_aast hO (by omega) (zM_41 hM1) (zin_i ⟨by decide, by decide⟩) dX7_copy_134 ?_
  refine zr_dup hO dX7_copy_135 rfl ?_
  refine zr_bipush (v := 7) hO dX7_copy_136 (by decide) ?_
  refine zr_aload_0 hO dX7_copy_138 ?_
  refine zr_getfr (c := 7) hO (by decide) (by decide) zf_X7_49 (zM_0 (zM_lk hM1 (by omega))) rfl rfl dX7_copy_139 ?_
  refine zq_aast hO (by omega) (zM_42 hM1) (zin_i ⟨by decide, by decide⟩) dX7_copy_142 ?_
  refine zr_dup hO dX7_copy_143 rfl ?_
  refine zr_bipush (v := 8) hO dX7_copy_144 (by decide) ?_
  refine zr_aload_0 hO dX7_copy_146 ?_
  refine zr_getfr (c := 7) hO (by decide) (by decide) zf_X7_52 (zM_0 (zM_lk hM1 (by omega))) rfl rfl dX7_copy_147 ?_
  refine zq_aast hO (by omega) (zM_43 hM1) (zin_i ⟨by decide, by decide⟩) dX7_copy_150 ?_
  refine zr_dup hO dX7_copy_151 rfl ?_
  refine zr_bipush (v := 9) hO dX7_copy_152 (by decide) ?_
  refine zr_aload_0 hO dX7_copy_154 ?_
  refine zr_getfr (c := 7) hO (by decide) (by decide) zf_X7_55 (zM_0 (zM_lk hM1 (by omega))) rfl rfl dX7_copy_155 ?_
  refine zq_aast hO (by omega) (zM_44 hM1) (zin_i ⟨by decide, by decide⟩) dX7_copy_158 ?_
  refine zV_pc (pc' := 159) rfl ?_
  refine zr_dup hO dX7_copy_159 rfl ?_
  refine zr_bipush (v := 10) hO dX7_copy_160 (by decide) ?_
  refine zr_aload_0 hO dX7_copy_162 ?_
  refine zr_getfr (c := 7) hO (by decide) (by decide) zf_X7_58 (zM_0 (zM_lk hM1 (by omega))) rfl rfl dX7_copy_163 ?_
  refine zq_aast hO (by omega) (zM_45 hM1) (zin_i ⟨by decide, by decide⟩) dX7_copy_166 ?_
  refine zr_dup hO dX7_copy_167 rfl ?_
  refine zr_bipush (v := 11) hO dX7_copy_168 (by decide) ?_
  refine zr_aload_0 hO dX7_copy_170 ?_
  refine zr_getfr (c := 7) hO (by decide) (by decide) zf_X7_61 (zM_0 (zM_lk hM1 (by omega))) rfl rfl dX7_copy_171 ?_
  refine zq_aast hO (by omega) (zM_46 hM1) (zin_i ⟨by decide, by decide⟩) dX7_copy_174 ?_
  refine zr_dup hO dX7_copy_175 rfl ?_
  refine zr_bipush (v := 12) hO dX7_copy_176 (by decide) ?_
  refine zr_aload_0 hO dX7_copy_178 ?_
  refine zr_getfr (c := 7) hO (by decide) (by decide) zf_X7_64 (zM_0 (zM_lk hM1 (by omega))) rfl rfl dX7_copy_179 ?_
  refine zq_aast hO (by omega) (zM_47 hM1) (zin_i ⟨by decide, by decide⟩) dX7_copy_182 ?_
  refine zr_dup hO dX7_copy_183 rfl ?_
  refine zr_bipush (v := 13) hO dX7_copy_184 (by decide) ?_
  refine zr_aload_0 hO dX7_copy_186 ?_
  refine zr_getfr (c := 7) hO (by decide) (by decide) zf_X7_67 (zM_0 (zM_lk hM1 (by omega))) rfl rfl dX7_copy_187 ?_
  refine zq_aast hO (by omega) (zM_48 hM1) (zin_i ⟨by decide, by decide⟩) dX7_copy_190 ?_
  refine zr_dup hO dX7_copy_191 rfl ?_
  refine zr_bipush (v := 14) hO dX7_copy_192 (by decide) ?_
  refine zr_aload_0 hO dX7_copy_194 ?_
  refine zr_getfr (c := 7) hO (by decide) (by decide) zf_X7_70 (zM_0 (zM_lk hM1 (by omega))) rfl rfl dX7_copy_195 ?_
  refine zq_aast hO (by omega) (zM_49 hM1) (zin_i ⟨by decide, by decide⟩) dX7_copy_198 ?_
  refine zV_pc (pc' := 199) rfl ?_
  refine zr_dup hO dX7_copy_199 rfl ?_
  refine zr_bipush (v := 15) hO dX7_copy_200 (by decide) ?_
  refine zr_aload_0 hO dX7_copy_202 ?_
  refine zr_getfr (c := 7) hO (by decide) (by decide) zf_X7_73 (zM_0 (zM_lk hM1 (by omega))) rfl rfl dX7_copy_203 ?_
  refine zq_aast hO (by omega) (zM_50 hM1) (zin_i ⟨by decide, by decide⟩) dX7_copy_206 ?_
  refine zr_dup hO dX7_copy_207 rfl ?_
  refine zr_bipush (v := 16) hO dX7_copy_208 (by decide) ?_
  refine zr_aload_0 hO dX7_copy_210 ?_
  refine zr_getfr (c := 7) hO (by decide) (by decide) zf_X7_79 (zM_0 (zM_lk hM1 (by omega))) rfl rfl dX7_copy_211 ?_
  refine zq_aast hO (by omega) (zM_68 hM1) (zin_i ⟨by decide, by decide⟩) dX7_copy_214 ?_
  refine zr_dup hO dX7_copy_215 rfl ?_
  refine zr_bipush (v := 17) hO dX7_copy_216 (by decide) ?_
  refine zr_aload_0 hO dX7_copy_218 ?_
  refine zr_getfr (c := 7) hO (by decide) (by decide) zf_X7_82 (zM_0 (zM_lk hM1 (by omega))) rfl rfl dX7_copy_219 ?_
  refine zq_aast hO (by omega) (zM_69 hM1) (zin_i ⟨by decide, by decide⟩) dX7_copy_222 ?_
  refine zr_dup hO dX7_copy_223 rfl ?_
  refine zr_bipush (v := 18) hO dX7_copy_224 (by decide) ?_
  refine zr_aload_0 hO dX7_copy_226 ?_
  refine zr_getfr (c := 7) hO (by decide) (by decide) zf_X7_88 (zM_0 (zM_lk hM1 (by omega))) rfl rfl dX7_copy_227 ?_
  refine zq_aast hO (by omega) (zM_101 hM1) (zin_i ⟨by decide, by decide⟩) dX7_copy_230 ?_
  refine zr_dup hO dX7_copy_231 rfl ?_
  refine zr_bipush (v := 19) hO dX7_copy_232 (by decide) ?_
  refine zr_aload_0 hO dX7_copy_234 ?_
  refine zr_getfr (c := 7) hO (by decide) (by decide) zf_X7_91 (zM_0 (zM_lk hM1 (by omega))) rfl rfl dX7_copy_235 ?_
  refine zq_aast hO (by omega) (zM_102 hM1) (zin_i ⟨by decide, by decide⟩) dX7_copy_238 ?_
  refine zV_pc (pc' := 239) rfl ?_
  rw [mCR_ch]
  refine zr_astore_2 hO dX7_copy_239 (by decide) rfl ?_
  have hM2 : zM (zlk ly' a9 (3, 20, mCR o)) o := zM_lk hM1 (by omega)
  have hQ2 : zM (zlk ly' a9 (3, 20, mCR o)) q := zM_lk hQ1 (by omega)
  refine zr_bipush (v := 20) hO dX7_copy_240 (by decide) ?_
  refine zr_newII (N := 20) hO zk_X7_113 (by decide) (by decide) (by decide) (by decide) (by decide) dX7_copy_242 (fun b9 hb9 => ?_)
  refine zr_dup hO dX7_copy_245 rfl ?_
  refine zr_iconst (v := 0) hO dX7_copy_246 (by decide) ?_
  refine zr_aload_1 hO dX7_copy_247 ?_
  refine zr_getfr (c := 7) hO (by decide) (by decide) zf_X7_19 (zM_0 (zM_lk hQ2 (by omega))) rfl rfl dX7_copy_248 ?_
  refine zq_aast hO (by omega) (zM_1 hQ2) (zin_i ⟨by decide, by decide⟩) dX7_copy_251 ?_
  refine zr_dup hO dX7_copy_252 rfl ?_
  refine zr_iconst (v := 1) hO dX7_copy_253 (by decide) ?_
  refine zr_aload_1 hO dX7_copy_254 ?_
  refine zr_getfr (c := 7) hO (by decide) (by decide) zf_X7_23 (zM_0 (zM_lk hQ2 (by omega))) rfl rfl dX7_copy_255 ?_
  refine zq_aast hO (by omega) (zM_2 hQ2) (zin_i ⟨by decide, by decide⟩) dX7_copy_258 ?_
  refine zr_dup hO dX7_copy_259 rfl ?_
  refine zr_iconst (v := 2) hO dX7_copy_260 (by decide) ?_
  refine zr_aload_1 hO dX7_copy_261 ?_
  refine zr_getfr (c := 7) hO (by decide) (by decide) zf_X7_26 (zM_0 (zM_lk hQ2 (by omega))) rfl rfl dX7_copy_262 ?_
  refine zq_aast hO (by omega) (zM_3 hQ2) (zin_i ⟨by decide, by decide⟩) dX7_copy_265 ?_
  refine zr_dup hO dX7_copy_266 rfl ?_
  refine zr_iconst (v := 3) hO dX7_copy_267 (by decide) ?_
  refine zr_aload_1 hO dX7_copy_268 ?_
  refine zr_getfr (c := 7) hO (by decide) (by decide) zf_X7_29 (zM_0 (zM_lk hQ2 (by omega))) rfl rfl dX7_copy_269 ?_
  refine zq_aast hO (by omega) (zM_4 hQ2) (zin_i ⟨by decide, by decide⟩) dX7_copy_272 ?_
  refine zr_dup hO dX7_copy_273 rfl ?_
  refine zr_iconst (v := 4) hO dX7_copy_274 (by decide) ?_
  refine zr_aload_1 hO dX7_copy_275 ?_
  refine zr_getfr (c := 7) hO (by decide) (by decide) zf_X7_32 (zM_0 (zM_lk hQ2 (by omega))) rfl rfl dX7_copy_276 ?_
  refine zq_aast hO (by omega) (zM_5 hQ2) (zin_i ⟨by decide, by decide⟩) dX7_copy_279 ?_
  refine zV_pc (pc' := 280) rfl ?_
  refine zr_dup hO dX7_copy_280 rfl ?_
  refine zr_iconst (v := 5) hO dX7_copy_281 (by decide) ?_
  refine zr_aload_1 hO dX7_copy_282 ?_
  refine zr_getfr (c := 7) hO (by decide) (by decide) zf_X7_35 (zM_0 (zM_lk hQ2 (by omega))) rfl rfl dX7_copy_283 ?_
  refine zq_aast hO (by omega) (zM_6 hQ2) (zin_i ⟨by decide, by decide⟩) dX7_copy_286 ?_
  refine zr_dup hO dX7_copy_287 rfl ?_
  refine zr_bipush (v := 6) hO dX7_copy_288 (by decide) ?_
  refine zr_aload_1 hO dX7_copy_290 ?_
  refine zr_getfr (c := 7) hO (by decide) (by decide) zf_X7_46 (zM_0 (zM_lk hQ2 (by omega))) rfl rfl dX7_copy_291 ?_
  refine zq_aast hO (by omega) (zM_41 hQ2) (zin_i ⟨by decide, by decide⟩) dX7_copy_294 ?_
  refine zr_dup hO dX7_copy_295 rfl ?_
  refine zr_bipush (v := 7) hO dX7_copy_296 (by decide) ?_
  refine zr_aload_1 hO dX7_copy_298 ?_
  refine zr_getfr (c := 7) hO (by decide) (by decide) zf_X7_49 (zM_0 (zM_lk hQ2 (by omega))) rfl rfl dX7_copy_299 ?_
  refine zq_aast hO (by omega) (zM_42 hQ2) (zin_i ⟨by decide, by decide⟩) dX7_copy_302 ?_
  refine zr_dup hO dX7_copy_303 rfl ?_
  refine zr_bipush (v := 8) hO dX7_copy_304 (by decide) ?_
  refine zr_aload_1 hO dX7_copy_306 ?_
  refine zr_getfr (c := 7) hO (by decide) (by decide) zf_X7_52 (zM_0 (zM_lk hQ2 (by omega))) rfl rfl dX7_copy_307 ?_
  refine zq_aast hO (by omega) (zM_43 hQ2) (zin_i ⟨by decide, by decide⟩) dX7_copy_310 ?_
  refine zr_dup hO dX7_copy_311 rfl ?_
  refine zr_bipush (v := 9) hO dX7_copy_312 (by decide) ?_
  refine zr_aload_1 hO dX7_copy_314 ?_
  refine zr_getfr (c := 7) hO (by decide) (by decide) zf_X7_55 (zM_0 (zM_lk hQ2 (by omega))) rfl rfl dX7_copy_315 ?_
  refine zq_aast hO (by omega) (zM_44 hQ2) (zin_i ⟨by decide, by decide⟩) dX7_copy_318 ?_
  refine zV_pc (pc' := 319) rfl ?_
  refine zr_dup hO dX7_copy_319 rfl ?_
  refine zr_bipush (v := 10) hO dX7_copy_320 (by decide) ?_
  refine zr_aload_1 hO dX7_copy_322 ?_
  refine zr_getfr (c := 7) hO (by decide) (by decide) zf_X7_58 (zM_0 (zM_lk hQ2 (by omega))) rfl rfl dX7_copy_323 ?_
  refine zq_aast hO (by omega) (zM_45 hQ2) (zin_i ⟨by decide, by decide⟩) dX7_copy_326 ?_
  refine zr_dup hO dX7_copy_327 rfl ?_
  refine zr_bipush (v := 11) hO dX7_copy_328 (by decide) ?_
  refine zr_aload_1 hO dX7_copy_330 ?_
  refine zr_getfr (c := 7) hO (by decide) (by decide) zf_X7_61 (zM_0 (zM_lk hQ2 (by omega))) rfl rfl dX7_copy_331 ?_
  refine zq_aast hO (by omega) (zM_46 hQ2) (zin_i ⟨by decide, by decide⟩) dX7_copy_334 ?_
  refine zr_dup hO dX7_copy_335 rfl ?_
  refine zr_bipush (v := 12) hO dX7_copy_336 (by decide) ?_
  refine zr_aload_1 hO dX7_copy_338 ?_
  refine zr_getfr (c := 7) hO (by decide) (by decide) zf_X7_64 (zM_0 (zM_lk hQ2 (by omega))) rfl rfl dX7_copy_339 ?_
  refine zq_aast hO (by omega) (zM_47 hQ2) (zin_i ⟨by decide, by decide⟩) dX7_copy_342 ?_
  refine zr_dup hO dX7_copy_343 rfl ?_
  refine zr_bipush (v := 13) hO dX7_copy_344 (by decide) ?_
  refine zr_aload_1 hO dX7_copy_346 ?_
  refine zr_getfr (c := 7) hO (by decide) (by decide) zf_X7_67 (zM_0 (zM_lk hQ2 (by omega))) rfl rfl dX7_copy_347 ?_
  refine zq_aast hO (by omega) (zM_48 hQ2) (zin_i ⟨by decide, by decide⟩) dX7_copy_350 ?_
  refine zr_dup hO dX7_copy_351 rfl ?_
  refine zr_bipush (v := 14) hO dX7_copy_352 (by decide) ?_
  refine zr_aload_1 hO dX7_copy_354 ?_
  refine zr_getfr (c := 7) hO (by decide) (by decide) zf_X7_70 (zM_0 (zM_lk hQ2 (by omega))) rfl rfl dX7_copy_355 ?_
  refine zq_aast hO (by omega) (zM_49 hQ2) (zin_i ⟨by decide, by decide⟩) dX7_copy_358 ?_
  refine zV_pc (pc' := 359) rfl ?_
  refine zr_dup hO dX7_copy_359 rfl ?_
  refine zr_bipush (v := 15) hO dX7_copy_360 (by decide) ?_
  refine zr_aload_1 hO dX7_copy_362 ?_
  refine zr_getfr (c := 7) hO (by decide) (by decide) zf_X7_73 (zM_0 (zM_lk hQ2 (by omega))) rfl rfl dX7_copy_363 ?_
  refine zq_aast hO (by omega) (zM_50 hQ2) (zin_i ⟨by decide, by decide⟩) dX7_copy_366 ?_
  refine zr_dup hO dX7_copy_367 rfl ?_
  refine zr_bipush (v := 16) hO dX7_copy_368 (by decide) ?_
  refine zr_aload_1 hO dX7_copy_370 ?_
  refine zr_getfr (c := 7) hO (by decide) (by decide) zf_X7_79 (zM_0 (zM_lk hQ2 (by omega))) rfl rfl dX7_copy_371 ?_
  refine zq_aast hO (by omega) (zM_68 hQ2) (zin_i ⟨by decide, by decide⟩) dX7_copy_374 ?_
  refine zr_dup hO dX7_copy_375 rfl ?_
  refine zr_bipush (v := 17) hO dX7_copy_376 (by decide) ?_
  refine zr_aload_1 hO dX7_copy_378 ?_
  refine zr_getfr (c := 7) hO (by decide) (by decide) zf_X7_82 (zM_0 (zM_lk hQ2 (by omega))) rfl rfl dX7_copy_379 ?_
  refine zq_aast hO (by omega) (zM_69 hQ2) (zin_i ⟨by decide, by decide⟩) dX7_copy_382 ?_
  refine zr_dup hO dX7_copy_383 rfl ?_
  refine zr_bipush (v := 18) hO dX7_copy_384 (by decide) ?_
  refine zr_aload_1 hO dX7_copy_386 ?_
  refine zr_getfr (c := 7) hO (by decide) (by decide) zf_X7_88 (zM_0 (zM_lk hQ2 (by omega))) rfl rfl dX7_copy_387 ?_
  refine zq_aast hO (by omega) (zM_101 hQ2) (zin_i ⟨by decide, by decide⟩) dX7_copy_390 ?_
  refine zr_dup hO dX7_copy_391 rfl ?_
  refine zr_bipush (v := 19) hO dX7_copy_392 (by decide) ?_
  refine zr_aload_1 hO dX7_copy_394 ?_
  refine zr_getfr (c := 7) hO (by decide) (by decide) zf_X7_91 (zM_0 (zM_lk hQ2 (by omega))) rfl rfl dX7_copy_395 ?_
  refine zq_aast hO (by omega) (zM_102 hQ2) (zin_i ⟨by decide, by decide⟩) dX7_copy_398 ?_
  refine zV_pc (pc' := 399) rfl ?_
  rw [mCR_ch]
  refine zr_astore_3 hO dX7_copy_399 (by decide) rfl ?_
  have hM3 : zM (zlk (zlk ly' a9 (3, 20, mCR o)) b9 (3, 20, mCR q)) o := zM_lk hM2 (by omega)
  have hQ3 : zM (zlk (zlk ly' a9 (3, 20, mCR o)) b9 (3, 20, mCR q)) q := zM_lk hQ2 (by omega)
  have hA : zlk (zlk ly' a9 (3, 20, mCR o)) b9 (3, 20, mCR q) a9 = (3, 20, mCR o) := by rw [zlk_ne _ _ (by omega), zlk_eq]
  have hBb : zlk (zlk ly' a9 (3, 20, mCR o)) b9 (3, 20, mCR q) b9 = (3, 20, mCR q) := zlk_eq _ _ _
  have hl3 : ∀ a, a < q + 103 → zlk (zlk ly' a9 (3, 20, mCR o)) b9 (3, 20, mCR q) a = ly' a := fun a ha => by rw [zlk_ne _ _ (by omega), zlk_ne _ _ (by omega)]
  generalize zlk (zlk ly' a9 (3, 20, mCR o)) b9 (3, 20, mCR q) = ly3 at hM3 hQ3 hA hBb hl3 ⊢
  refine zV_S (S' := fun x => q + 103 ≤ x) (fun z hz => by omega) ?_
  refine zV_b (bc' := 0) (bs' := 0) (Nat.zero_le _) (Nat.zero_le _) ?_
  have key434 : zV G X 5 0 0 (fun x => q + 103 ≤ x) ly3 τ1 (zwr (zwr σ o 103 M) q 103 (mF_crow M)) 434 [some (.ref o), some (.ref q), some (.ref a9), some (.ref b9), none, none, none, none, none] [] := by
    refine zr_iconst (v := 0) hO dX7_copy_434 (by decide) ?_
    refine zr_istore_4 hO dX7_copy_435 (by decide) rfl ?_
    rw [← nI_0]
    refine z_for (P := fun k s => zV G X 5 0 0 (fun x => q + 103 ≤ x) ly3 τ1 (zwr (zwr σ o 103 M) q 103 s) 437 [some (.ref o), some (.ref q), some (.ref a9), some (.ref b9), some (.int (nI k)), none, none, none, none] []) (ix (M 0 15)) (mB_ct M) (fun _ _ => True) (mF_crow M) trivial (fun _ _ _ _ => trivial) ?_ ?_
    · intro k s hk _ ih
      have hk16 : k < 16 := by have := zmW_n16 hW; omega
      refine zr_iload_4 hO dX7_copy_437 ?_
      refine zr_aload_0 hO dX7_copy_439 ?_
      refine zq_getfi hO (by omega) hM3 (by decide) zf_X7_110 rfl dX7_copy_440 ?_
      refine zr_icmp_ge (tgt := 514) hO dX7_copy_443 (by decide) (fun c => absurd (zlt_T (zmW_n hW) hk) c) (fun c443 => ?_)
      refine zr_aload_0 hO dX7_copy_446 ?_
      refine zr_getfr (c := 7) hO (by decide) (by decide) zf_X7_40 (zM_0 hM3) rfl rfl dX7_copy_447 ?_
      refine zr_iload_4 hO dX7_copy_450 ?_
      refine zr_aaldIN hO (zM_7 hM3) hk16 (by decide) dX7_copy_452 ?_
      refine zr_iconst (v := 0) hO dX7_copy_453 (by decide) ?_
      refine zr_aload_1 hO dX7_copy_454 ?_
      refine zr_getfr (c := 7) hO (by decide) (by decide) zf_X7_40 (zM_0 hQ3) rfl rfl dX7_copy_455 ?_
      refine zr_iload_4 hO dX7_copy_458 ?_
      refine zr_aaldIN hO (zM_7 hQ3) hk16 (by decide) dX7_copy_460 ?_
      refine zr_iconst (v := 0) hO dX7_copy_461 (by decide) ?_
      refine zr_bipush (v := 16) hO dX7_copy_462 (by decide) ?_
      refine zr_copy (D := d) hO (by omega) hRm zl_X7_114 (zM_code hM3 hk16) (zM_code hQ3 hk16) (by decide) (by decide) (by decide) (by decide) (by decide) (Nat.le_of_ble_eq_true rfl) dX7_copy_464 ?_
      rw [zwr_cp2 (n := 16) σ (by omega) (by omega) rfl]
      refine zV_pc (pc' := 467) rfl ?_
      refine zr_aload_0 hO dX7_copy_467 ?_
      refine zr_getfr (c := 7) hO (by decide) (by decide) zf_X7_43 (zM_0 hM3) rfl rfl dX7_copy_468 ?_
      refine zr_iload_4 hO dX7_copy_471 ?_
      refine zr_aaldIN hO (zM_24 hM3) hk16 (by decide) dX7_copy_473 ?_
      refine zr_iconst (v := 0) hO dX7_copy_474 (by decide) ?_
      refine zr_aload_1 hO dX7_copy_475 ?_
      refine zr_getfr (c := 7) hO (by decide) (by decide) zf_X7_43 (zM_0 hQ3) rfl rfl dX7_copy_476 ?_
      refine zr_iload_4 hO dX7_copy_479 ?_
      refine zr_aaldIN hO (zM_24 hQ3) hk16 (by decide) dX7_copy_481 ?_
      refine zr_iconst (v := 0) hO dX7_copy_482 (by decide) ?_
      refine zr_bipush (v := 16) hO dX7_copy_483 (by decide) ?_
      refine zr_copy (D := d) hO (by omega) hRm zl_X7_114 (zM_num hM3 hk16) (zM_num hQ3 hk16) (by decide) (by decide) (by decide) (by decide) (by decide) (Nat.le_of_ble_eq_true rfl) dX7_copy_485 ?_
      rw [zwr_cp2 (n := 16) σ (by omega) (by omega) rfl]
      refine zV_pc (pc' := 488) rfl ?_
      refine zr_aload_0 hO dX7_copy_488 ?_
      refine zr_getfr (c := 7) hO (by decide) (by decide) zf_X7_76 (zM_0 hM3) rfl rfl dX7_copy_489 ?_
      refine zr_iload_4 hO dX7_copy_492 ?_
      refine zr_aaldIN hO (zM_51 hM3) hk16 (by decide) dX7_copy_494 ?_
      refine zr_iconst (v := 0) hO dX7_copy_495 (by decide) ?_
      refine zr_aload_1 hO dX7_copy_496 ?_
      refine zr_getfr (c := 7) hO (by decide) (by decide) zf_X7_76 (zM_0 hQ3) rfl rfl dX7_copy_497 ?_
      refine zr_iload_4 hO dX7_copy_500 ?_
      refine zr_aaldIN hO (zM_51 hQ3) hk16 (by decide) dX7_copy_502 ?_
      refine zr_iconst (v := 0) hO dX7_copy_503 (by decide) ?_
      refine zr_iconst (v := 5) hO dX7_copy_504 (by decide) ?_
      refine zr_copy (D := d) hO (by omega) hRm zl_X7_114 (zM_cnt hM3 hk16) (zM_cnt hQ3 hk16) (by decide) (by decide) (by decide) (by decide) (by decide) (Nat.le_of_ble_eq_true rfl) dX7_copy_505 ?_
      rw [zwr_cp2 (n := 5) σ (by omega) (by omega) rfl]
      refine zV_pc (pc' := 508) rfl ?_
      refine zr_iinc_4 (v := 1) hO dX7_copy_508 (by decide) (by decide) rfl ?_
      refine zr_goto (tgt := 437) hO dX7_copy_511 (by decide) ?_
      rw [nI_1]
      exact ih
    · intro _
      refine zr_iload_4 hO dX7_copy_437 ?_
      refine zr_aload_0 hO dX7_copy_439 ?_
      refine zq_getfi hO (by omega) hM3 (by decide) zf_X7_110 rfl dX7_copy_440 ?_
      refine zr_icmp_ge (tgt := 514) hO dX7_copy_443 (by decide) (fun c443 => ?_) (fun c => absurd c (zlt_F (zmW_n hW)))
      refine zr_aload_1 hO dX7_copy_514 ?_
      refine zV_to (ly' := fun a => if a < q + 103 then ly' a else (0, 0, znr)) (τ' := τ1) (σ' := zwr (zwr σ o 103 M) q 103 (mF_copy M)) (fun a => ?_) ?_
      · by_cases h : a < q + 103
        · right; rw [if_pos h, hl3 a h]; exact ⟨rfl, rfl, rfl⟩
        · left; rw [if_neg h]
      refine zr_areturn hO hE dX7_copy_515 (fun z hz9 => ?_)
      have hz8 : q + 103 ≤ z := hz9
      refine ⟨q, rfl, hq, hz8, fun f hf => ?_, fun a ha => ?_, fun a ha => ?_, hτ, rfl⟩
      · show (if q + f < q + 103 then ly' (q + f) else _) = _
        rw [if_pos (show q + f < q + 103 by omega)]; exact hQ1 f hf
      · show (if a < q + 103 then ly' a else _) = _
        have ha2 : a < q := ha; rw [if_pos (Nat.lt_of_lt_of_le ha2 (Nat.le_add_right _ _))]; exact hlow a ha2
      · show (if a < q + 103 then ly' a else _).1 = 0
        have ha2 : q + 103 ≤ a := ha; rw [if_neg (Nat.not_lt.mpr ha2)]
  refine zr_iconst (v := 0) hO dX7_copy_400 (by decide) ?_
  refine zr_istore_4 hO dX7_copy_401 (by decide) rfl ?_
  rw [← nI_0]
  refine z_for (P := fun k s => zV G X 5 0 0 (fun x => q + 103 ≤ x) ly3 τ1 (zwr (zwr σ o 103 M) q 103 s) 403 [some (.ref o), some (.ref q), some (.ref a9), some (.ref b9), some (.int (nI k)), none, none, none, none] []) 20 (fun k => mF_rc M (mCP k) (mCN k)) (fun _ _ => True) (mF_cset M) trivial (fun _ _ _ _ => trivial) ?_ ?_
  · intro k s hk _ ih
    obtain ⟨hf1, hf2, hf3⟩ := mCP_mk o k hk
    obtain ⟨-, -, hf4⟩ := mCP_mk q k hk
    have hlo := (hM3 _ hf1).trans hf3
    have hlq := (hQ3 _ hf1).trans hf4
    refine zr_iload_4 hO dX7_copy_403 ?_
    refine zr_aload_2 hO dX7_copy_405 ?_
    refine zr_alenI (v := 20) hO hA rfl dX7_copy_406 ?_
    refine zr_icmp_ge (tgt := 434) hO dX7_copy_407 (by decide) (fun c => absurd (zlt_T (x := 20) (by decide) hk) c) (fun c407 => ?_)
    refine zr_aload_2 hO dX7_copy_410 ?_
    refine zr_iload_4 hO dX7_copy_411 ?_
    refine zr_aaldI hO hA (vp_in_nI hk (by decide)) (mCR_at hk) dX7_copy_413 ?_
    refine zr_iconst (v := 0) hO dX7_copy_414 (by decide) ?_
    refine zr_aload_3 hO dX7_copy_415 ?_
    refine zr_iload_4 hO dX7_copy_416 ?_
    refine zr_aaldI hO hBb (vp_in_nI hk (by decide)) (mCR_at hk) dX7_copy_418 ?_
    refine zr_iconst (v := 0) hO dX7_copy_419 (by decide) ?_
    refine zr_aload_2 hO dX7_copy_420 ?_
    refine zr_iload_4 hO dX7_copy_421 ?_
    refine zr_aaldI hO hA (vp_in_nI hk (by decide)) (mCR_at hk) dX7_copy_423 ?_
    refine zr_alen (v := nI (mCN k)) hO hlo rfl dX7_copy_424 ?_
    have hn0 : ¬ nI (mCN k) < 0 := by rw [Int32.lt_iff_toInt_lt, nI_toInt (by omega), show (0 : Int32).toInt = 0 from rfl]; omega
    refine zr_copy (D := d) hO (by omega) hRm zl_X7_114 hlo hlq (by decide) (by decide) hn0 (by rw [zix (by omega), show (ix 0 : Nat) = 0 from rfl]; omega) (by rw [zix (by omega), show (ix 0 : Nat) = 0 from rfl]; omega) (Nat.le_of_ble_eq_true rfl) dX7_copy_425 ?_
    rw [zwr_cp2 (n := mCN k) σ (by omega) hf1 (zix (by omega))]
    refine zr_iinc_4 (v := 1) hO dX7_copy_428 (by decide) (by decide) rfl ?_
    refine zr_goto (tgt := 403) hO dX7_copy_431 (by decide) ?_
    rw [nI_1]
    exact ih
  · intro _
    refine zr_iload_4 hO dX7_copy_403 ?_
    refine zr_aload_2 hO dX7_copy_405 ?_
    refine zr_alenI (v := 20) hO hA rfl dX7_copy_406 ?_
    refine zr_icmp_ge (tgt := 434) hO dX7_copy_407 (by decide) (fun c407 => ?_) (fun c => absurd c (zlt_F (x := 20) (by decide)))
    refine zV_d4 ?_
    exact key434
