theorem zi_newR {G : zGm} {X : zCx} {own : String} {cc : ByteArray} {nL bc bs : Nat} {ly ly1 : zLy} {τ : zTu} {σ M : zSg} {pc o m c n : Nat} {mk : Nat → zKd} {rf : Nat → Option Nat} {ls : List (Option Value)} {st : List Value} (hO : zOk G X own cc nL) (hB : zBI mk o m c n rf ly ly1) (hm0 : 0 < m) {x : Int32} {N : Nat} (hmk : mk m = (1, N, znr)) (hn : ¬ x < 0) (hN : ix x = N) (hNb : N ≤ 1000) (hb1 : 1 ≤ bc) (hb2 : N ≤ bs) (hdg : decode cc pc = .ok (.newarray .int, 2))
    (kk : ∀ ly2, zBI mk o (m + 1) c n rf ly ly2 → zV G X nL (bc - 1) (bs - N) (fun z => z = o + (m + 1)) ly2 τ (zwr σ o (m + 1) (zrow M m (fun _ => 0))) (pc + 2) ls (.ref (o + m) :: st)) : zV G X nL bc bs (fun z => z = o + m) ly1 τ (zwr σ o m M) pc ls (.int x :: st) := by
  rw [zwr_cg (M' := zrow M m (fun _ => 0)) σ (fun f hf => (zrow_ne M _ (by omega)).symm)]
  exact zi_new hO hB hm0 hmk hn hN hNb hb1 hb2 (zrow_eq _ _ _) hdg kk
theorem zix9 {j k : Nat} : ix (nI 0) = 0 := rfl
theorem mF_new_0 {f : Nat} (h0 : f ≠ 0) (h1 : f ≠ 68) (h2 : f ≠ 101) : mF_new f = fun _ => 0 := by
  funext j
  unfold mF_new
  split
  · exact absurd rfl h0
  · exact absurd rfl h1
  · exact absurd rfl h2
  · rfl
theorem zmk_in {o : Nat} {s N K : Nat} (h : (s, N, K) = (8, 16, 16) ∨ (s, N, K) = (25, 16, 16) ∨ (s, N, K) = (52, 16, 5) ∨ (s, N, K) = (71, 30, 3)) : ∀ f, s - 1 < f → f < s - 1 + 1 + N → zmk o f = (1, K, znr) := by
  have hl : ∀ (ly : zLy) , zM ly o → ∀ f, s - 1 < f → f < s - 1 + 1 + N → ly (o + f) = (1, K, znr) := by
    intro ly hM f h1 h2
    rcases h with h | h | h | h
    all_goals cases h
    · have := zM_code hM (t := f - 8) (by omega); rwa [show 8 + (f - 8) = f by omega] at this
    · have := zM_num hM (t := f - 25) (by omega); rwa [show 25 + (f - 25) = f by omega] at this
    · have := zM_cnt hM (t := f - 52) (by omega); rwa [show 52 + (f - 52) = f by omega] at this
    · have := zM_ran hM (t := f - 71) (by omega); rwa [show 71 + (f - 71) = f by omega] at this
  intro f h1 h2
  have hM : zM (fun a => zmk o (a - o)) o := fun f hf => by show zmk o (o + f - o) = _; rw [Nat.add_sub_cancel_left]
  have := hl _ hM f h1 h2
  rwa [Nat.add_sub_cancel_left] at this
theorem zmr_ch (o : Nat) : (zrf (zrf (zrf (zrf (zrf (zrf (zrf (zrf (zrf (zrf (zrf (zrf (zrf (zrf (zrf (zrf (zrf (zrf (zrf (zrf (zrf (zrf (zrf (zrf znr 7 (some (o + 1))) 8 (some (o + 2))) 16 (some (o + 3))) 17 (some (o + 4))) 18 (some (o + 5))) 19 (some (o + 6))) 20 (some (o + 7))) 21 (some (o + 24))) 22 (some (o + 41))) 23 (some (o + 42))) 24 (some (o + 43))) 25 (some (o + 44))) 26 (some (o + 45))) 27 (some (o + 46))) 28 (some (o + 47))) 29 (some (o + 48))) 30 (some (o + 49))) 31 (some (o + 50))) 32 (some (o + 51))) 33 (some (o + 68))) 34 (some (o + 69))) 35 (some (o + 70))) 36 (some (o + 101))) 37 (some (o + 102))) = zmr o := by
  funext k
  match k with
  | 0 => rfl
  | 1 => rfl
  | 2 => rfl
  | 3 => rfl
  | 4 => rfl
  | 5 => rfl
  | 6 => rfl
  | 7 => rfl
  | 8 => rfl
  | 9 => rfl
  | 10 => rfl
  | 11 => rfl
  | 12 => rfl
  | 13 => rfl
  | 14 => rfl
  | 15 => rfl
  | 16 => rfl
  | 17 => rfl
  | 18 => rfl
  | 19 => rfl
  | 20 => rfl
  | 21 => rfl
  | 22 => rfl
  | 23 => rfl
  | 24 => rfl
  | 25 => rfl
  | 26 => rfl
  | 27 => rfl
  | 28 => rfl
  | 29 => rfl
  | 30 => rfl
  | 31 => rfl
  | 32 => rfl
  | 33 => rfl
  | 34 => rfl
  | 35 => rfl
  | 36 => rfl
  | 37 => rfl
  | 38 => rfl
  | k + 39 => simp [zrf, zmr, znr]
theorem zM_of {o : Nat} {ly ly1 : zLy} (hB : zBI (zmk o) o 103 7 39 (zrf (zrf (zrf (zrf (zrf (zrf (zrf (zrf (zrf (zrf (zrf (zrf (zrf (zrf (zrf (zrf (zrf (zrf (zrf (zrf (zrf (zrf (zrf (zrf znr 7 (some (o + 1))) 8 (some (o + 2))) 16 (some (o + 3))) 17 (some (o + 4))) 18 (some (o + 5))) 19 (some (o + 6))) 20 (some (o + 7))) 21 (some (o + 24))) 22 (some (o + 41))) 23 (some (o + 42))) 24 (some (o + 43))) 25 (some (o + 44))) 26 (some (o + 45))) 27 (some (o + 46))) 28 (some (o + 47))) 29 (some (o + 48))) 30 (some (o + 49))) 31 (some (o + 50))) 32 (some (o + 51))) 33 (some (o + 68))) 34 (some (o + 69))) 35 (some (o + 70))) 36 (some (o + 101))) 37 (some (o + 102))) ly ly1) : zM ly1 o := by
  intro f hf
  by_cases h : f = 0
  · subst h
    rw [show zmk o 0 = (7 + 5, 39, zmr o) from rfl, ← zmr_ch]
    exact hB.1
  · exact hB.2.1 f (by omega) hf
set_option maxRecDepth 100000 in
set_option maxHeartbeats 8000000 in
theorem e_X7_init {l : Launch} {G : zGm} {d o : Nat} {ly : zLy} {τ : zTu} {σ : zSg} (htr : l.stackTraces = false) (hly : ly o = (7 + 5, 39, znr)) (hd : 1 ≤ d) :
    zEv l G d 102 1010 (yX7_init, cX7_init, 1, none) [.ref o] (fun z => z = o + 1) ly τ (zwr σ o 1 (fun _ _ => 0)) (fun r z ly' τ' σ' => r = .inl none ∧ z = o + 103 ∧ zM ly' o ∧ (∀ a, a < o ∨ o + 103 ≤ a → ly' a = ly a) ∧ τ' = τ ∧ σ' = zwr σ o 103 mF_new) := by
  refine zEv_of (ls := [some (.ref o), none, none, none, none, none, none, none, none]) htr (by decide) (Nat.le_of_ble_eq_true rfl) rfl (fun X hO hE hN hRm hL hNm => ?_)
  have hO : zOk G X RX7 cX7_init 1 := hO
  refine zr_aload_0 hO dX7_init_0 ?_
  refine zr_objInit (D := d) hO (by omega) hRm zl_X7_1 (Nat.le_of_ble_eq_true rfl) dX7_init_1 ?_
  refine zr_aload_0 hO dX7_init_4 ?_
  refine zr_iconst (v := 3) hO dX7_init_5 (by decide) ?_
  refine zg_putfi0 (c := 7) hO hly (by decide) (by decide) (by decide) zf_X7_7 rfl rfl dX7_init_6 ?_
  refine zr_aload_0 hO dX7_init_9 ?_
  refine zr_bipush (v := 10) hO dX7_init_10 (by decide) ?_
  refine zg_putfi0 (c := 7) hO hly (by decide) (by decide) (by decide) zf_X7_13 rfl rfl dX7_init_12 ?_
  refine zr_aload_0 hO dX7_init_15 ?_
  refine zr_iconst (v := 1) hO dX7_init_16 (by decide) ?_
  refine zg_putfi0 (c := 7) hO hly (by decide) (by decide) (by decide) zf_X7_16 rfl rfl dX7_init_17 ?_
  rw [zwr_cg (M' := mF_new) σ (fun f hf => by
    have : f = 0 := by omega
    subst this
    funext j
    match j with
    | 0 => rfl
    | 1 => rfl
    | 2 => rfl
    | 3 => rfl
    | 4 => rfl
    | 5 => rfl
    | 6 => rfl
    | j + 7 => rfl)]
  have hB : zBI (zmk o) o 1 7 39 znr ly ly := ⟨hly, fun f h0 h1 => absurd h1 (by omega), fun a _ => rfl⟩
  refine zr_aload_0 hO dX7_init_20 ?_
  refine zr_iconst (v := 4) hO dX7_init_21 (by decide) ?_
  refine zi_new (N := 4) hO hB (by decide) rfl (by decide) rfl (by decide) (by omega) (by omega) rfl dX7_init_22 (fun ly1 hB => ?_)
  refine zi_put hO hNm hB (by decide) (by decide) (by decide) rfl zf_X7_19 rfl rfl ⟨rfl, rfl⟩ dX7_init_24 (fun ly1 hB => ?_)
  refine zr_aload_0 hO dX7_init_27 ?_
  refine zr_iconst (v := 4) hO dX7_init_28 (by decide) ?_
  refine zi_new (N := 4) hO hB (by decide) rfl (by decide) rfl (by decide) (by omega) (by omega) rfl dX7_init_29 (fun ly1 hB => ?_)
  refine zi_put hO hNm hB (by decide) (by decide) (by decide) rfl zf_X7_23 rfl rfl ⟨rfl, rfl⟩ dX7_init_31 (fun ly1 hB => ?_)
  refine zr_aload_0 hO dX7_init_34 ?_
  refine zr_bipush (v := 16) hO dX7_init_35 (by decide) ?_
  refine zi_new (N := 16) hO hB (by decide) rfl (by decide) rfl (by decide) (by omega) (by omega) rfl dX7_init_37 (fun ly1 hB => ?_)
  refine zi_put hO hNm hB (by decide) (by decide) (by decide) rfl zf_X7_26 rfl rfl ⟨rfl, rfl⟩ dX7_init_39 (fun ly1 hB => ?_)
  refine zr_aload_0 hO dX7_init_42 ?_
  refine zr_bipush (v := 16) hO dX7_init_43 (by decide) ?_
  refine zi_new (N := 16) hO hB (by decide) rfl (by decide) rfl (by decide) (by omega) (by omega) rfl dX7_init_45 (fun ly1 hB => ?_)
  refine zi_put hO hNm hB (by decide) (by decide) (by decide) rfl zf_X7_29 rfl rfl ⟨rfl, rfl⟩ dX7_init_47 (fun ly1 hB => ?_)
  refine zr_aload_0 hO dX7_init_50 ?_
  refine zr_bipush (v := 16) hO dX7_init_51 (by decide) ?_
  refine zi_new (N := 16) hO hB (by decide) rfl (by decide) rfl (by decide) (by omega) (by omega) rfl dX7_init_53 (fun ly1 hB => ?_)
  refine zi_put hO hNm hB (by decide) (by decide) (by decide) rfl zf_X7_32 rfl rfl ⟨rfl, rfl⟩ dX7_init_55 (fun ly1 hB => ?_)
  refine zr_aload_0 hO dX7_init_58 ?_
  refine zr_bipush (v := 16) hO dX7_init_59 (by decide) ?_
  refine zi_new (N := 16) hO hB (by decide) rfl (by decide) rfl (by decide) (by omega) (by omega) rfl dX7_init_61 (fun ly1 hB => ?_)
  refine zi_put hO hNm hB (by decide) (by decide) (by decide) rfl zf_X7_35 rfl rfl ⟨rfl, rfl⟩ dX7_init_63 (fun ly1 hB => ?_)
  refine zr_aload_0 hO dX7_init_66 ?_
  refine zr_bipush (v := 16) hO dX7_init_67 (by decide) ?_
  refine zr_bipush (v := 16) hO dX7_init_69 (by decide) ?_
  refine zi_mul (N := 16) (K := 16) hO hB (by decide) zk_X7_38 (by decide) (by decide) rfl rfl (by decide) (by decide) (by omega) (by omega) rfl (zmk_in (s := 8) (N := 16) (K := 16) (by decide)) (fun f h0 h1 => mF_new_0 (by omega) (by omega) (by omega)) dX7_init_71 (fun ly1 hB => ?_)
  refine zi_put hO hNm hB (by decide) (by decide) (by decide) rfl zf_X7_40 rfl rfl ⟨rfl, rfl⟩ dX7_init_75 (fun ly1 hB => ?_)
  refine zr_aload_0 hO dX7_init_78 ?_
  refine zr_bipush (v := 16) hO dX7_init_79 (by decide) ?_
  refine zr_bipush (v := 16) hO dX7_init_81 (by decide) ?_
  refine zi_mul (N := 16) (K := 16) hO hB (by decide) zk_X7_38 (by decide) (by decide) rfl rfl (by decide) (by decide) (by omega) (by omega) rfl (zmk_in (s := 25) (N := 16) (K := 16) (by decide)) (fun f h0 h1 => mF_new_0 (by omega) (by omega) (by omega)) dX7_init_83 (fun ly1 hB => ?_)
  refine zi_put hO hNm hB (by decide) (by decide) (by decide) rfl zf_X7_43 rfl rfl ⟨rfl, rfl⟩ dX7_init_87 (fun ly1 hB => ?_)
  refine zr_aload_0 hO dX7_init_90 ?_
  refine zr_bipush (v := 16) hO dX7_init_91 (by decide) ?_
  refine zi_new (N := 16) hO hB (by decide) rfl (by decide) rfl (by decide) (by omega) (by omega) rfl dX7_init_93 (fun ly1 hB => ?_)
  refine zi_put hO hNm hB (by decide) (by decide) (by decide) rfl zf_X7_46 rfl rfl ⟨rfl, rfl⟩ dX7_init_95 (fun ly1 hB => ?_)
  refine zr_aload_0 hO dX7_init_98 ?_
  refine zr_bipush (v := 16) hO dX7_init_99 (by decide) ?_
  refine zi_new (N := 16) hO hB (by decide) rfl (by decide) rfl (by decide) (by omega) (by omega) rfl dX7_init_101 (fun ly1 hB => ?_)
  refine zi_put hO hNm hB (by decide) (by decide) (by decide) rfl zf_X7_49 rfl rfl ⟨rfl, rfl⟩ dX7_init_103 (fun ly1 hB => ?_)
  refine zr_aload_0 hO dX7_init_106 ?_
  refine zr_bipush (v := 16) hO dX7_init_107 (by decide) ?_
  refine zi_new (N := 16) hO hB (by decide) rfl (by decide) rfl (by decide) (by omega) (by omega) rfl dX7_init_109 (fun ly1 hB => ?_)
  refine zi_put hO hNm hB (by decide) (by decide) (by decide) rfl zf_X7_52 rfl rfl ⟨rfl, rfl⟩ dX7_init_111 (fun ly1 hB => ?_)
  refine zr_aload_0 hO dX7_init_114 ?_
  refine zr_bipush (v := 16) hO dX7_init_115 (by decide) ?_
  refine zi_new (N := 16) hO hB (by decide) rfl (by decide) rfl (by decide) (by omega) (by omega) rfl dX7_init_117 (fun ly1 hB => ?_)
  refine zi_put hO hNm hB (by decide) (by decide) (by decide) rfl zf_X7_55 rfl rfl ⟨rfl, rfl⟩ dX7_init_119 (fun ly1 hB => ?_)
  refine zr_aload_0 hO dX7_init_122 ?_
  refine zr_bipush (v := 16) hO dX7_init_123 (by decide) ?_
  refine zi_new (N := 16) hO hB (by decide) rfl (by decide) rfl (by decide) (by omega) (by omega) rfl dX7_init_125 (fun ly1 hB => ?_)
  refine zi_put hO hNm hB (by decide) (by decide) (by decide) rfl zf_X7_58 rfl rfl ⟨rfl, rfl⟩ dX7_init_127 (fun ly1 hB => ?_)
  refine zr_aload_0 hO dX7_init_130 ?_
  refine zr_bipush (v := 16) hO dX7_init_131 (by decide) ?_
  refine zi_new (N := 16) hO hB (by decide) rfl (by decide) rfl (by decide) (by omega) (by omega) rfl dX7_init_133 (fun ly1 hB => ?_)
  refine zi_put hO hNm hB (by decide) (by decide) (by decide) rfl zf_X7_61 rfl rfl ⟨rfl, rfl⟩ dX7_init_135 (fun ly1 hB => ?_)
  refine zr_aload_0 hO dX7_init_138 ?_
  refine zr_bipush (v := 16) hO dX7_init_139 (by decide) ?_
  refine zi_new (N := 16) hO hB (by decide) rfl (by decide) rfl (by decide) (by omega) (by omega) rfl dX7_init_141 (fun ly1 hB => ?_)
  refine zi_put hO hNm hB (by decide) (by decide) (by decide) rfl zf_X7_64 rfl rfl ⟨rfl, rfl⟩ dX7_init_143 (fun ly1 hB => ?_)
  refine zr_aload_0 hO dX7_init_146 ?_
  refine zr_bipush (v := 16) hO dX7_init_147 (by decide) ?_
  refine zi_new (N := 16) hO hB (by decide) rfl (by decide) rfl (by decide) (by omega) (by omega) rfl dX7_init_149 (fun ly1 hB => ?_)
  refine zi_put hO hNm hB (by decide) (by decide) (by decide) rfl zf_X7_67 rfl rfl ⟨rfl, rfl⟩ dX7_init_151 (fun ly1 hB => ?_)
  refine zr_aload_0 hO dX7_init_154 ?_
  refine zr_bipush (v := 16) hO dX7_init_155 (by decide) ?_
  refine zi_new (N := 16) hO hB (by decide) rfl (by decide) rfl (by decide) (by omega) (by omega) rfl dX7_init_157 (fun ly1 hB => ?_)
  refine zi_put hO hNm hB (by decide) (by decide) (by decide) rfl zf_X7_70 rfl rfl ⟨rfl, rfl⟩ dX7_init_159 (fun ly1 hB => ?_)
  refine zr_aload_0 hO dX7_init_162 ?_
  refine zr_bipush (v := 16) hO dX7_init_163 (by decide) ?_
  refine zi_new (N := 16) hO hB (by decide) rfl (by decide) rfl (by decide) (by omega) (by omega) rfl dX7_init_165 (fun ly1 hB => ?_)
  refine zi_put hO hNm hB (by decide) (by decide) (by decide) rfl zf_X7_73 rfl rfl ⟨rfl, rfl⟩ dX7_init_167 (fun ly1 hB => ?_)
  refine zr_aload_0 hO dX7_init_170 ?_
  refine zr_bipush (v := 16) hO dX7_init_171 (by decide) ?_
  refine zr_iconst (v := 5) hO dX7_init_173 (by decide) ?_
  refine zi_mul (N := 16) (K := 5) hO hB (by decide) zk_X7_38 (by decide) (by decide) rfl rfl (by decide) (by decide) (by omega) (by omega) rfl (zmk_in (s := 52) (N := 16) (K := 5) (by decide)) (fun f h0 h1 => mF_new_0 (by omega) (by omega) (by omega)) dX7_init_174 (fun ly1 hB => ?_)
  refine zi_put hO hNm hB (by decide) (by decide) (by decide) rfl zf_X7_76 rfl rfl ⟨rfl, rfl⟩ dX7_init_178 (fun ly1 hB => ?_)
  refine zr_aload_0 hO dX7_init_181 ?_
  refine zr_iconst (v := 3) hO dX7_init_182 (by decide) ?_
  refine zi_newR (N := 3) hO hB (by decide) rfl (by decide) rfl (by decide) (by omega) (by omega) dX7_init_183 (fun ly1 hB => ?_)
  refine zr_dup hO dX7_init_185 rfl ?_
  refine zr_iconst (v := 0) hO dX7_init_186 (by decide) ?_
  refine zr_iconst (v := (-1)) hO dX7_init_187 (by decide) ?_
  refine zg_iast (N := 69) hO (n := 3) (rf := znr) (hB.2.1 68 (by decide) (by decide)) (by decide) (zin_i ⟨by decide, by decide⟩) dX7_init_188 ?_
  refine zr_dup hO dX7_init_189 rfl ?_
  refine zr_iconst (v := 1) hO dX7_init_190 (by decide) ?_
  refine zr_iconst (v := (-1)) hO dX7_init_191 (by decide) ?_
  refine zg_iast (N := 69) hO (n := 3) (rf := znr) (hB.2.1 68 (by decide) (by decide)) (by decide) (zin_i ⟨by decide, by decide⟩) dX7_init_192 ?_
  refine zr_dup hO dX7_init_193 rfl ?_
  refine zr_iconst (v := 2) hO dX7_init_194 (by decide) ?_
  refine zr_iconst (v := (-1)) hO dX7_init_195 (by decide) ?_
  refine zg_iast (N := 69) hO (n := 3) (rf := znr) (hB.2.1 68 (by decide) (by decide)) (by decide) (zin_i ⟨by decide, by decide⟩) dX7_init_196 ?_
  rw [zwr_cg (M' := mF_new) σ (fun f hf => by
    by_cases h : f = 68
    · subst h
      funext j
      match j with
      | 0 => rfl
      | 1 => rfl
      | 2 => rfl
      | j + 3 => simp [zup, mF_new, zrow_eq, show (ix 0 : Nat) = 0 from rfl, show (ix 1 : Nat) = 1 from rfl, show (ix 2 : Nat) = 2 from rfl, show (ix 3 : Nat) = 3 from rfl, show (ix 4 : Nat) = 4 from rfl, show (ix 5 : Nat) = 5 from rfl]
    · funext j; simp [zup, h, zrow_ne])]
  refine zi_put hO hNm hB (by decide) (by decide) (by decide) rfl zf_X7_79 rfl rfl ⟨rfl, rfl⟩ dX7_init_197 (fun ly1 hB => ?_)
  refine zr_aload_0 hO dX7_init_200 ?_
  refine zr_iconst (v := 3) hO dX7_init_201 (by decide) ?_
  refine zi_new (N := 3) hO hB (by decide) rfl (by decide) rfl (by decide) (by omega) (by omega) rfl dX7_init_202 (fun ly1 hB => ?_)
  refine zi_put hO hNm hB (by decide) (by decide) (by decide) rfl zf_X7_82 rfl rfl ⟨rfl, rfl⟩ dX7_init_204 (fun ly1 hB => ?_)
  refine zr_aload_0 hO dX7_init_207 ?_
  refine zr_bipush (v := 30) hO dX7_init_208 (by decide) ?_
  refine zr_iconst (v := 3) hO dX7_init_210 (by decide) ?_
  refine zi_mul (N := 30) (K := 3) hO hB (by decide) zk_X7_38 (by decide) (by decide) rfl rfl (by decide) (by decide) (by omega) (by omega) rfl (zmk_in (s := 71) (N := 30) (K := 3) (by decide)) (fun f h0 h1 => mF_new_0 (by omega) (by omega) (by omega)) dX7_init_211 (fun ly1 hB => ?_)
  refine zi_put hO hNm hB (by decide) (by decide) (by decide) rfl zf_X7_85 rfl rfl ⟨rfl, rfl⟩ dX7_init_215 (fun ly1 hB => ?_)
  refine zr_aload_0 hO dX7_init_218 ?_
  refine zr_bipush (v := 6) hO dX7_init_219 (by decide) ?_
  refine zi_newR (N := 6) hO hB (by decide) rfl (by decide) rfl (by decide) (by omega) (by omega) dX7_init_221 (fun ly1 hB => ?_)
  refine zr_dup hO dX7_init_223 rfl ?_
  refine zr_iconst (v := 0) hO dX7_init_224 (by decide) ?_
  refine zr_iconst (v := (-1)) hO dX7_init_225 (by decide) ?_
  refine zg_iast (N := 102) hO (n := 6) (rf := znr) (hB.2.1 101 (by decide) (by decide)) (by decide) (zin_i ⟨by decide, by decide⟩) dX7_init_226 ?_
  refine zr_dup hO dX7_init_227 rfl ?_
  refine zr_iconst (v := 1) hO dX7_init_228 (by decide) ?_
  refine zr_iconst (v := (-1)) hO dX7_init_229 (by decide) ?_
  refine zg_iast (N := 102) hO (n := 6) (rf := znr) (hB.2.1 101 (by decide) (by decide)) (by decide) (zin_i ⟨by decide, by decide⟩) dX7_init_230 ?_
  refine zr_dup hO dX7_init_231 rfl ?_
  refine zr_iconst (v := 2) hO dX7_init_232 (by decide) ?_
  refine zr_iconst (v := (-1)) hO dX7_init_233 (by decide) ?_
  refine zg_iast (N := 102) hO (n := 6) (rf := znr) (hB.2.1 101 (by decide) (by decide)) (by decide) (zin_i ⟨by decide, by decide⟩) dX7_init_234 ?_
  refine zr_dup hO dX7_init_235 rfl ?_
  refine zr_iconst (v := 3) hO dX7_init_236 (by decide) ?_
  refine zr_iconst (v := (-1)) hO dX7_init_237 (by decide) ?_
  refine zg_iast (N := 102) hO (n := 6) (rf := znr) (hB.2.1 101 (by decide) (by decide)) (by decide) (zin_i ⟨by decide, by decide⟩) dX7_init_238 ?_
  refine zr_dup hO dX7_init_239 rfl ?_
  refine zr_iconst (v := 4) hO dX7_init_240 (by decide) ?_
  refine zr_iconst (v := (-1)) hO dX7_init_241 (by decide) ?_
  refine zg_iast (N := 102) hO (n := 6) (rf := znr) (hB.2.1 101 (by decide) (by decide)) (by decide) (zin_i ⟨by decide, by decide⟩) dX7_init_242 ?_
  refine zr_dup hO dX7_init_243 rfl ?_
  refine zr_iconst (v := 5) hO dX7_init_244 (by decide) ?_
  refine zr_iconst (v := (-1)) hO dX7_init_245 (by decide) ?_
  refine zg_iast (N := 102) hO (n := 6) (rf := znr) (hB.2.1 101 (by decide) (by decide)) (by decide) (zin_i ⟨by decide, by decide⟩) dX7_init_246 ?_
  rw [zwr_cg (M' := mF_new) σ (fun f hf => by
    by_cases h : f = 101
    · subst h
      funext j
      match j with
      | 0 => rfl
      | 1 => rfl
      | 2 => rfl
      | 3 => rfl
      | 4 => rfl
      | 5 => rfl
      | j + 6 => simp [zup, mF_new, zrow_eq, show (ix 0 : Nat) = 0 from rfl, show (ix 1 : Nat) = 1 from rfl, show (ix 2 : Nat) = 2 from rfl, show (ix 3 : Nat) = 3 from rfl, show (ix 4 : Nat) = 4 from rfl, show (ix 5 : Nat) = 5 from rfl]
    · funext j; simp [zup, h, zrow_ne])]
  refine zi_put hO hNm hB (by decide) (by decide) (by decide) rfl zf_X7_88 rfl rfl ⟨rfl, rfl⟩ dX7_init_247 (fun ly1 hB => ?_)
  refine zr_aload_0 hO dX7_init_250 ?_
  refine zr_bipush (v := 6) hO dX7_init_251 (by decide) ?_
  refine zi_new (N := 6) hO hB (by decide) rfl (by decide) rfl (by decide) (by omega) (by omega) rfl dX7_init_253 (fun ly1 hB => ?_)
  refine zi_put hO hNm hB (by decide) (by decide) (by decide) rfl zf_X7_91 rfl rfl ⟨rfl, rfl⟩ dX7_init_255 (fun ly1 hB => ?_)
  exact zr_return hO hE dX7_init_258 (fun z hz => ⟨rfl, hz, zM_of hB, hB.2.2, rfl, rfl⟩)
