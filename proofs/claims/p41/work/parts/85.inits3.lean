/-! The class, made: a machine, and the class itself -/
section ZIT
variable {G : zGm} {X : zCx} {own : String} {cc : ByteArray} {nL bc bs : Nat} {ly ly1 : zLy} {τ : zTu} {σ M : zSg} {pc o m c n : Nat} {mk : Nat → zKd} {rf : Nat → Option Nat} {ls : List (Option Value)} {st : List Value}
theorem zi_newT (hO : zOk G X own cc nL) (hB : zBI mk o m c n rf ly ly1) (hm0 : 0 < m) {x : Int32} {N index : Nat} (hw : Cond.classLink own index RX4 ∈ lw_tbl) (hmk : mk m = (4, N, znr)) (hn : ¬ x < 0) (hN : ix x = N) (hNb : N ≤ 1000) (hb1 : 1 ≤ bc) (hb2 : N ≤ bs) (hdg : decode cc pc = .ok (.anewarray index, 3))
    (kk : ∀ ly2, zBI mk o (m + 1) c n rf ly ly2 → zV G X nL (bc - 1) (bs - N) (fun z => z = o + (m + 1)) ly2 τ (zwr σ o (m + 1) M) (pc + 3) ls (.ref (o + m) :: st)) : zV G X nL bc bs (fun z => z = o + m) ly1 τ (zwr σ o m M) pc ls (.int x :: st) := by
  refine zr_newT hO hw hn hN hNb hb1 hb2 hdg (fun q hq => ?_)
  subst hq
  refine zV_tc (ly' := zlk ly1 (o + m) (4, N, znr)) (τ' := τ) (σ' := zwr σ o (m + 1) M) (fun a => Or.inr ?_) (kk _ ⟨?_, fun f h0 h1 => ?_, fun a ha => ?_⟩)
  · by_cases h : a = o + m
    · subst h
      rw [zlk_eq]
      rfl
    · congr 1
      funext j
      unfold zwr
      by_cases h2 : o ≤ a ∧ a < o + m
      · rw [if_pos h2, if_pos (by omega)]
      · rw [if_neg h2, if_neg (by omega)]
  · rw [zlk_ne _ _ (by omega)]; exact hB.1
  · by_cases h : f = m
    · subst h; rw [zlk_eq, hmk]
    · rw [zlk_ne _ _ (by omega)]; exact hB.2.1 f h0 (by omega)
  · rw [zlk_ne _ _ (by omega)]; exact hB.2.2 a (by omega)
theorem zBI_to {mk2 : Nat → zKd} {m2 : Nat} (hB : zBI mk o m c n rf ly ly1) (hm : m = m2) (h : ∀ f, 0 < f → f < m → mk f = mk2 f) : zBI mk2 o m2 c n rf ly ly1 := by
  subst hm
  exact ⟨hB.1, fun f h0 h1 => (hB.2.1 f h0 h1).trans (h f h0 h1), hB.2.2⟩
theorem zBI_8 {o k : Nat} {ly ly1 : zLy} {rf : Nat → Option Nat} {v : Nat} (hk : k < 16) (hv : v = o + ztk k) (hB : zBI (mk0 o (rf8 o k)) o (15 + 5 * k + 5) 0 13 rf ly ly1) : zBI (mk0 o (rf8 o (k + 1))) o (15 + 5 * (k + 1)) 0 13 rf ly (zlk ly1 (o + 8) (4, 16, zrf (rf8 o k) (ix (nI k)) (some v))) := by
  have e8 : zrf (rf8 o k) (ix (nI k)) (some v) = rf8 o (k + 1) := by
    rw [zix (by omega), hv]
    funext j
    unfold zrf rf8
    by_cases h : j = k
    · rw [if_pos h, if_pos (by omega), h]
    · rw [if_neg h]
      by_cases h2 : j < k
      · rw [if_pos h2, if_pos (by omega)]
      · rw [if_neg h2, if_neg (by omega)]
  have mk_ne : ∀ f, f ≠ 8 → mk0 o (rf8 o k) f = mk0 o (rf8 o (k + 1)) f := by
    intro f hf
    match f, hf with
    | 0, _ => rfl
    | 1, _ => rfl
    | 2, _ => rfl
    | 3, _ => rfl
    | 4, _ => rfl
    | 5, _ => rfl
    | 6, _ => rfl
    | 7, _ => rfl
    | 8, h9 => exact absurd rfl h9
    | 9, _ => rfl
    | 10, _ => rfl
    | 11, _ => rfl
    | 12, _ => rfl
    | 13, _ => rfl
    | 14, _ => rfl
    | f + 15, _ => rfl
  rw [e8]
  refine ⟨?_, fun f h0 h1 => ?_, fun a ha => ?_⟩
  · rw [zlk_ne _ _ (by omega)]; exact hB.1
  · by_cases h : f = 8
    · subst h; rw [zlk_eq]; rfl
    · rw [zlk_ne _ _ (by omega), hB.2.1 f h0 (by omega), mk_ne f h]
  · rw [zlk_ne _ _ (by omega)]; exact hB.2.2 a (by omega)
end ZIT
theorem fill_at (f : Nat) (v : Int32) (M : zSg) (x j : Nat) : ∀ n, (List.range n).foldl (fun s i => zup s f i v) M x j = if x = f ∧ j < n then v else M x j := by
  intro n
  induction n with
  | zero => rw [if_neg (by omega)]; rfl
  | succ n ih =>
    rw [List.range_succ, List.foldl_append]
    show zup _ f n v x j = _
    by_cases c : x = f ∧ j = n
    · obtain ⟨rfl, rfl⟩ := c
      rw [zup_at, if_pos ⟨rfl, by omega⟩]
    · rw [zup_o c, ih]
      by_cases c2 : x = f ∧ j < n
      · rw [if_pos c2, if_pos ⟨c2.1, by omega⟩]
      · rw [if_neg c2, if_neg (by omega)]
set_option maxRecDepth 100000 in
set_option maxHeartbeats 400000 in
theorem e_X0_init {l : Launch} {G : zGm} {d o : Nat} {ly : zLy} {τ : zTu} {σ : zSg} (htr : l.stackTraces = false) (hly : ly o = (0 + 5, 13, znr)) (hd : 3 ≤ d) : zEv l G d 94 1061 (yX0_init, cX0_init, 2, none) [.ref o] (fun z => z = o + 1) ly τ (zwr σ o 1 (fun _ _ => 0)) (zPn o 95 (mk0 o (rf8 o 16)) (cF_new) ly σ) := by
  refine zEv_of (ls := [some (.ref o), none, none, none, none, none, none, none, none]) htr (by decide) (Nat.le_of_ble_eq_true rfl) rfl (fun X hO hE hN hRm hL hNm => ?_)
  have hO : zOk G X RX0 cX0_init 2 := hO
  refine zr_aload_0 hO dX0_init_0 ?_
  refine zr_objInit (D := d) hO (by omega) hRm zl_X0_3 (Nat.le_of_ble_eq_true rfl) dX0_init_1 ?_
  have hB : zBI (mk0 o (rf8 o 0)) o 1 0 13 znr ly ly := ⟨hly, fun f h0 h1 => absurd h1 (by omega), fun a _ => rfl⟩
  rw [zwr_cg (M' := cN0) σ (fun f hf => by rw [show f = 0 by omega]; rfl)]
  refine zr_aload_0 hO dX0_init_4 ?_
  refine zi_newO (c' := 2) (n' := 6) hO (by decide) zk_X0_9 zj_X2 zn_X2 rfl (by omega) (by omega) dX0_init_5 (fun ly2 τ2 h1 h2 => ?_)
  refine zr_dup hO dX0_init_8 rfl ?_
  refine zi_initN (D := d) (As := []) (m' := 2) (mk' := (mk2 (o + 1))) (M' := cN2) hO hRm hL (by omega) (by decide) rfl (e_X2_init (d := d - 1) htr h1 (by omega)) zl_X0_11 zi_X2_init zc_X2_init zn_X2 zd_X2_init (Nat.le_of_ble_eq_true rfl) dX0_init_9 (by omega) (by omega) hB (by omega) h2 (by decide) (fun f hf => by match f, hf with | 0, _ => rfl | 1, _ => rfl | f + 2, h9 => exact absurd h9 (by omega)) (fun f hf => by match f, hf with | 0, _ => rfl | 1, _ => rfl | f + 2, h9 => exact absurd h9 (by omega)) (fun ly1 τ1 hB => ?_)
  refine zi_put hO hNm hB (by decide) (by decide) (by decide) rfl zf_X0_12 rfl rfl ⟨rfl, rfl⟩ dX0_init_12 (fun ly1 hB => ?_)
  refine zr_aload_0 hO dX0_init_15 ?_
  refine zi_newO (c' := 5) (n' := 4) hO (by decide) zk_X0_18 zj_X5 zn_X5 rfl (by omega) (by omega) dX0_init_16 (fun ly2 τ2 h1 h2 => ?_)
  refine zr_dup hO dX0_init_19 rfl ?_
  refine zi_initN (D := d) (As := []) (m' := 5) (mk' := (mk5 (o + 3))) (M' := (fun _ _ => 0)) hO hRm hL (by omega) (by decide) rfl (e_X5_init (d := d - 1) htr h1 (by omega)) zl_X0_20 zi_X5_init zc_X5_init zn_X5 zd_X5_init (Nat.le_of_ble_eq_true rfl) dX0_init_20 (by omega) (by omega) hB (by omega) h2 (by decide) (fun f hf => by match f, hf with | 0, _ => rfl | 1, _ => rfl | 2, _ => rfl | 3, _ => rfl | 4, _ => rfl | f + 5, h9 => exact absurd h9 (by omega)) (fun f hf => by match f, hf with | 0, _ => rfl | 1, _ => rfl | 2, _ => rfl | 3, _ => rfl | 4, _ => rfl | f + 5, h9 => exact absurd h9 (by omega)) (fun ly1 τ1 hB => ?_)
  refine zi_put hO hNm hB (by decide) (by decide) (by decide) rfl zf_X0_21 rfl rfl ⟨rfl, rfl⟩ dX0_init_23 (fun ly1 hB => ?_)
  refine zr_aload_0 hO dX0_init_26 ?_
  refine zr_bipush (v := 16) hO dX0_init_27 (by decide) ?_
  refine zi_newT (N := 16) hO hB (by decide) zk_X0_25 (by show (4, 16, rf8 o 0) = _; congr 2) (by decide) rfl (by decide) (by omega) (by omega) dX0_init_29 (fun ly1 hB => ?_)
  refine zi_put hO hNm hB (by decide) (by decide) (by decide) rfl zf_X0_27 rfl rfl ⟨rfl, rfl⟩ dX0_init_32 (fun ly1 hB => ?_)
  refine zr_aload_0 hO dX0_init_35 ?_
  refine zr_iconst (v := 4) hO dX0_init_36 (by decide) ?_
  refine zi_new (N := 4) hO hB (by decide) rfl (by decide) rfl (by decide) (by omega) (by omega) rfl dX0_init_37 (fun ly1 hB => ?_)
  refine zi_put hO hNm hB (by decide) (by decide) (by decide) rfl zf_X0_31 rfl rfl ⟨rfl, rfl⟩ dX0_init_39 (fun ly1 hB => ?_)
  refine zr_aload_0 hO dX0_init_42 ?_
  refine zr_bipush (v := 6) hO dX0_init_43 (by decide) ?_
  refine zi_new (N := 6) hO hB (by decide) rfl (by decide) rfl (by decide) (by omega) (by omega) rfl dX0_init_45 (fun ly1 hB => ?_)
  refine zi_put hO hNm hB (by decide) (by decide) (by decide) rfl zf_X0_35 rfl rfl ⟨rfl, rfl⟩ dX0_init_47 (fun ly1 hB => ?_)
  refine zr_aload_0 hO dX0_init_50 ?_
  refine zr_bipush (v := 6) hO dX0_init_51 (by decide) ?_
  refine zi_new (N := 6) hO hB (by decide) rfl (by decide) rfl (by decide) (by omega) (by omega) rfl dX0_init_53 (fun ly1 hB => ?_)
  refine zi_put hO hNm hB (by decide) (by decide) (by decide) rfl zf_X0_38 rfl rfl ⟨rfl, rfl⟩ dX0_init_55 (fun ly1 hB => ?_)
  refine zr_aload_0 hO dX0_init_58 ?_
  refine zr_iconst (v := 3) hO dX0_init_59 (by decide) ?_
  refine zi_new (N := 3) hO hB (by decide) rfl (by decide) rfl (by decide) (by omega) (by omega) rfl dX0_init_60 (fun ly1 hB => ?_)
  refine zi_put hO hNm hB (by decide) (by decide) (by decide) rfl zf_X0_41 rfl rfl ⟨rfl, rfl⟩ dX0_init_62 (fun ly1 hB => ?_)
  refine zr_aload_0 hO dX0_init_65 ?_
  refine zr_iconst (v := 3) hO dX0_init_66 (by decide) ?_
  refine zi_new (N := 3) hO hB (by decide) rfl (by decide) rfl (by decide) (by omega) (by omega) rfl dX0_init_67 (fun ly1 hB => ?_)
  refine zi_put hO hNm hB (by decide) (by decide) (by decide) rfl zf_X0_44 rfl rfl ⟨rfl, rfl⟩ dX0_init_69 (fun ly1 hB => ?_)
  refine zr_aload_0 hO dX0_init_72 ?_
  refine zr_iconst (v := 4) hO dX0_init_73 (by decide) ?_
  refine zi_new (N := 4) hO hB (by decide) rfl (by decide) rfl (by decide) (by omega) (by omega) rfl dX0_init_74 (fun ly1 hB => ?_)
  refine zi_put hO hNm hB (by decide) (by decide) (by decide) rfl zf_X0_47 rfl rfl ⟨rfl, rfl⟩ dX0_init_76 (fun ly1 hB => ?_)
  refine zr_iconst (v := 0) hO dX0_init_79 (by decide) ?_
  refine zr_istore_1 hO dX0_init_80 (by decide) rfl ?_
  have k107 : ∀ (ly1 : zLy) (τ1 : zTu), zBI (mk0 o (rf8 o 16)) o 95 0 13 (rf0 o) ly ly1 → zV G X 2 0 0 (fun z => z = o + 95) ly1 τ1 (zwr σ o 95 cN0) 107 [some (.ref o), none, none, none, none, none, none, none, none] [] := by
    intro ly1 τ1 hB
    refine zr_iconst (v := 0) hO dX0_init_107 (by decide) ?_
    refine zr_istore_1 hO dX0_init_108 (by decide) rfl ?_
    refine zV_pc (pc' := 109) rfl ?_
    rw [← nI_0]
    refine z_for (P := fun k s => zV G X 2 0 0 (fun z => z = o + 95) ly1 τ1 (zwr σ o 95 s) 109 [some (.ref o), some (.int (nI k)), none, none, none, none, none, none, none] []) 6 (fun i s => zup s 10 i (-1)) (fun _ _ => True) cN0 trivial (fun _ _ _ _ => trivial) ?_ ?_
    · intro k s hk _ ih
      refine zr_iload_1 hO dX0_init_109 ?_
      refine zr_bipush (v := 6) hO dX0_init_110 (by decide) ?_
      refine zr_icmp_ge (tgt := 128) hO dX0_init_112 (by decide) (fun c => absurd (zlt_T (x := 6) (by decide) hk) c) (fun c9 => ?_)
      refine zr_aload_0 hO dX0_init_115 ?_
      refine zr_getfr (c := 0) hO (by decide) (by decide) zf_X0_35 hB.1 rfl rfl dX0_init_116 ?_
      refine zr_iload_1 hO dX0_init_119 ?_
      refine zr_iconst (v := (-1)) hO dX0_init_120 (by decide) ?_
      refine zg_iastN (n := 6) (rf := znr) hO (hB.2.1 10 (by decide) (by decide)) (by decide) hk (by decide) dX0_init_121 ?_
      refine zr_iinc_1 (v := 1) hO dX0_init_122 (by decide) (by decide) rfl ?_
      refine zr_goto (tgt := 109) hO dX0_init_125 (by decide) ?_
      rw [nI_1]
      exact ih
    · intro _
      refine zr_iload_1 hO dX0_init_109 ?_
      refine zr_bipush (v := 6) hO dX0_init_110 (by decide) ?_
      refine zr_icmp_ge (tgt := 128) hO dX0_init_112 (by decide) (fun c9 => ?_) (fun c => absurd c (zlt_F (x := 6) (by decide)))
      generalize hs : (List.range 6).foldl (fun s i => zup s 10 i (-1)) cN0 = s1
      refine zr_iconst (v := 0) hO dX0_init_128 (by decide) ?_
      refine zr_istore_1 hO dX0_init_129 (by decide) rfl ?_
      refine zV_pc (pc' := 130) rfl ?_
      rw [← nI_0]
      refine z_for (P := fun k s => zV G X 2 0 0 (fun z => z = o + 95) ly1 τ1 (zwr σ o 95 s) 130 [some (.ref o), some (.int (nI k)), none, none, none, none, none, none, none] []) 3 (fun i s => zup s 12 i (-1)) (fun _ _ => True) s1 trivial (fun _ _ _ _ => trivial) ?_ ?_
      · intro k s hk _ ih
        refine zr_iload_1 hO dX0_init_130 ?_
        refine zr_iconst (v := 3) hO dX0_init_131 (by decide) ?_
        refine zr_icmp_ge (tgt := 148) hO dX0_init_132 (by decide) (fun c => absurd (zlt_T (x := 3) (by decide) hk) c) (fun c9 => ?_)
        refine zr_aload_0 hO dX0_init_135 ?_
        refine zr_getfr (c := 0) hO (by decide) (by decide) zf_X0_41 hB.1 rfl rfl dX0_init_136 ?_
        refine zr_iload_1 hO dX0_init_139 ?_
        refine zr_iconst (v := (-1)) hO dX0_init_140 (by decide) ?_
        refine zg_iastN (n := 3) (rf := znr) hO (hB.2.1 12 (by decide) (by decide)) (by decide) hk (by decide) dX0_init_141 ?_
        refine zr_iinc_1 (v := 1) hO dX0_init_142 (by decide) (by decide) rfl ?_
        refine zr_goto (tgt := 130) hO dX0_init_145 (by decide) ?_
        rw [nI_1]
        exact ih
      · intro _
        refine zr_iload_1 hO dX0_init_130 ?_
        refine zr_iconst (v := 3) hO dX0_init_131 (by decide) ?_
        refine zr_icmp_ge (tgt := 148) hO dX0_init_132 (by decide) (fun c9 => ?_) (fun c => absurd c (zlt_F (x := 3) (by decide)))
        refine zV_pc (pc' := 148) rfl ?_
        rw [zwr_cg (M' := cF_new) σ (fun f hf => by
          funext j
          rw [fill_at, ← hs, fill_at]
          unfold cF_new
          by_cases c : f = 12 ∧ j < 3
          · rw [if_pos c, if_pos (Or.inr c)]
          · rw [if_neg c]
            by_cases c2 : f = 10 ∧ j < 6
            · rw [if_pos c2, if_pos (Or.inl c2)]
            · rw [if_neg c2, if_neg (by omega)])]
        exact zr_return hO hE dX0_init_148 (fun z hz => zPn_of hB (by decide) rfl rfl rfl hz)
  have key : ∀ (j k : Nat), k + j = 16 → ∀ (ly1 : zLy) (τ1 : zTu), zBI (mk0 o (rf8 o k)) o (15 + 5 * k) 0 13 (rf0 o) ly ly1 → zV G X 2 (5 * j) (57 * j) (fun z => z = o + (15 + 5 * k)) ly1 τ1 (zwr σ o (15 + 5 * k) cN0) 81 [some (.ref o), some (.int (nI k)), none, none, none, none, none, none, none] [] := by
    intro j
    induction j with
    | zero =>
      intro k hk ly1 τ1 hB
      obtain rfl : k = 16 := by omega
      refine zr_iload_1 hO dX0_init_81 ?_
      refine zr_bipush (v := 16) hO dX0_init_82 (by decide) ?_
      refine zr_icmp_ge (tgt := 107) hO dX0_init_84 (by decide) (fun c9 => ?_) (fun c => absurd c (zlt_F (x := 16) (by decide)))
      refine zV_d1 ?_
      exact k107 ly1 τ1 hB
    | succ j ih =>
      intro k hk ly1 τ1 hB
      have hk16 : k < 16 := by omega
      refine zr_iload_1 hO dX0_init_81 ?_
      refine zr_bipush (v := 16) hO dX0_init_82 (by decide) ?_
      refine zr_icmp_ge (tgt := 107) hO dX0_init_84 (by decide) (fun c => absurd (zlt_T (x := 16) (by decide) hk16) c) (fun c9 => ?_)
      refine zr_aload_0 hO dX0_init_87 ?_
      refine zr_getfr (c := 0) hO (by decide) (by decide) zf_X0_27 hB.1 rfl rfl dX0_init_88 ?_
      refine zr_iload_1 hO dX0_init_91 ?_
      refine zV_pc (pc' := 92) rfl ?_
      refine zi_newO (c' := 4) (n' := 16) hO (by decide) zk_X0_25 zj_X4 zn_X4 rfl (by omega) (by omega) dX0_init_92 (fun ly2 τ2 h1 h2 => ?_)
      refine zr_dup hO dX0_init_95 rfl ?_
      refine zr_iload_1 hO dX0_init_96 ?_
      refine zi_init (D := d) (As := [.int (nI k)]) (m' := 5) (mk' := (mk4 (o + ztk k))) (M' := (cN4 (nI k))) hO hRm hL (by omega) (by decide) rfl (e_X4_init (d := d - 1) htr h1 (by omega)) zl_X0_50 zi_X4_init zc_X4_init zn_X4 zd_X4_init (Nat.le_of_ble_eq_true rfl) dX0_init_97 (by omega) (by omega) hB (by omega) h2 (by decide) (fun f hf => mk0_t o _ hf) (fun f hf => cN0_t hf) (fun ly1 τ1 hB => ?_)
      refine zr_aastT (n := 16) (n' := 16) hO (hB.2.1 8 (by decide) (by omega)) (rf' := zrf (zrf znr 1 (some (o + ztk k + 1))) 2 (some (o + ztk k + 4))) ((hB.2.1 (15 + 5 * k) (by omega) (by omega)).trans (mk0_t (f := 0) o _ (by decide))) (vp_in_nI hk16 (by decide)) dX0_init_100 ?_
      refine zr_iinc_1 (v := 1) hO dX0_init_101 (by decide) (by decide) rfl ?_
      refine zr_goto (tgt := 81) hO dX0_init_104 (by decide) ?_
      rw [nI_1]
      have hn := ih (k + 1) (by omega) _ τ1 (zBI_8 hk16 rfl hB)
      rw [show 5 * (j + 1) - 1 - 4 = 5 * j by omega, show 57 * (j + 1) - 16 - 41 = 57 * j by omega]
      exact hn
  exact key 16 0 rfl ly1 _ hB
def mk6 (o f : Nat) : zKd := if f = 0 then (6 + 5, 2, zrf (zrf znr 0 (some (o + 1))) 1 (some (o + 96))) else if f < 96 then mk0 (o + 1) (rf8 (o + 1) 16) (f - 1) else mk0 (o + 96) (rf8 (o + 96) 16) (f - 96)
def cN6 : zSg := fun f j => if f = 0 then 0 else if f < 96 then cF_new (f - 1) j else cF_new (f - 96) j
theorem mk6_a {o f : Nat} (h : f < 95) : mk6 o (1 + f) = mk0 (o + 1) (rf8 (o + 1) 16) f := by
  unfold mk6
  rw [if_neg (by omega), if_pos (by omega), show 1 + f - 1 = f by omega]
theorem mk6_b {o f : Nat} (h : f < 95) : mk6 o (96 + f) = mk0 (o + 96) (rf8 (o + 96) 16) f := by
  unfold mk6
  rw [if_neg (by omega), if_neg (by omega), show 96 + f - 96 = f by omega]
theorem cN6_a {f : Nat} (h : f < 95) : cF_new f = cN6 (1 + f) := by
  funext j
  unfold cN6
  rw [if_neg (by omega), if_pos (by omega), show 1 + f - 1 = f by omega]
theorem cN6_b {f : Nat} (h : f < 95) : cF_new f = cN6 (96 + f) := by
  funext j
  unfold cN6
  rw [if_neg (by omega), if_neg (by omega), show 96 + f - 96 = f by omega]
set_option maxRecDepth 100000 in
set_option maxHeartbeats 400000 in
theorem e_X6_init {l : Launch} {G : zGm} {d o : Nat} {ly : zLy} {τ : zTu} {σ : zSg} (htr : l.stackTraces = false) (hly : ly o = (6 + 5, 2, znr)) (hd : 4 ≤ d) : zEv l G d 190 2148 (yX6_init, cX6_init, 1, none) [.ref o] (fun z => z = o + 1) ly τ (zwr σ o 1 (fun _ _ => 0)) (zPn o 191 (mk6 o) (cN6) ly σ) := by
  refine zEv_of (ls := [some (.ref o), none, none, none, none, none, none, none, none]) htr (by decide) (Nat.le_of_ble_eq_true rfl) rfl (fun X hO hE hN hRm hL hNm => ?_)
  have hO : zOk G X RX6 cX6_init 1 := hO
  refine zr_aload_0 hO dX6_init_0 ?_
  refine zr_objInit (D := d) hO (by omega) hRm zl_X6_1 (Nat.le_of_ble_eq_true rfl) dX6_init_1 ?_
  have hB : zBI (mk6 o) o 1 6 2 znr ly ly := ⟨hly, fun f h0 h1 => absurd h1 (by omega), fun a _ => rfl⟩
  rw [zwr_cg (M' := cN6) σ (fun f hf => by rw [show f = 0 by omega]; rfl)]
  refine zr_aload_0 hO dX6_init_4 ?_
  refine zi_newO (c' := 0) (n' := 13) hO (by decide) zk_X6_7 zj_X0 zn_X0 rfl (by omega) (by omega) dX6_init_5 (fun ly2 τ2 h1 h2 => ?_)
  refine zr_dup hO dX6_init_8 rfl ?_
  refine zi_init (D := d) (As := []) (m' := 95) (mk' := (mk0 (o + 1) (rf8 (o + 1) 16))) (M' := cF_new) hO hRm hL (by omega) (by decide) rfl (e_X0_init (d := d - 1) htr h1 (by omega)) zl_X6_9 zi_X0_init zc_X0_init zn_X0 zd_X0_init (Nat.le_of_ble_eq_true rfl) dX6_init_9 (by omega) (by omega) hB (by omega) h2 (by decide) (fun f hf => mk6_a hf) (fun f hf => cN6_a hf) (fun ly1 τ1 hB => ?_)
  refine zi_put hO hNm hB (by decide) (by decide) (by decide) rfl zf_X6_10 rfl rfl ⟨rfl, rfl⟩ dX6_init_12 (fun ly1 hB => ?_)
  refine zr_aload_0 hO dX6_init_15 ?_
  refine zi_newO (c' := 0) (n' := 13) hO (by decide) zk_X6_7 zj_X0 zn_X0 rfl (by omega) (by omega) dX6_init_16 (fun ly2 τ2 h1 h2 => ?_)
  refine zr_dup hO dX6_init_19 rfl ?_
  refine zi_init (D := d) (As := []) (m' := 95) (mk' := (mk0 (o + 96) (rf8 (o + 96) 16))) (M' := cF_new) hO hRm hL (by omega) (by decide) rfl (e_X0_init (d := d - 1) htr h1 (by omega)) zl_X6_9 zi_X0_init zc_X0_init zn_X0 zd_X0_init (Nat.le_of_ble_eq_true rfl) dX6_init_20 (by omega) (by omega) hB (by omega) h2 (by decide) (fun f hf => mk6_b hf) (fun f hf => cN6_b hf) (fun ly1 τ1 hB => ?_)
  refine zi_put hO hNm hB (by decide) (by decide) (by decide) rfl zf_X6_16 rfl rfl ⟨rfl, rfl⟩ dX6_init_23 (fun ly1 hB => ?_)
  exact zr_return hO hE dX6_init_26 (fun z hz => zPn_of hB (by decide) rfl rfl rfl hz)
theorem X6_stands {o : Nat} {ly : zLy} (h : ∀ f, f < 191 → ly (o + f) = mk6 o f) : ly o = (6 + 5, 2, zcr6 (o + 1) (o + 96)) ∧ zC ly (o + 1) ∧ zC ly (o + 96) := by
  refine ⟨?_, zC_of (fun f hf => ?_), zC_of (fun f hf => ?_)⟩
  · have e6 : zrf (zrf znr 0 (some (o + 1))) 1 (some (o + 96)) = zcr6 (o + 1) (o + 96) := by
      funext k
      match k with
      | 0 => rfl
      | 1 => rfl
      | k + 2 => simp [zrf, zcr6, znr]
    rw [← e6]
    exact h 0 (by decide)
  · rw [show o + 1 + f = o + (1 + f) by omega, h (1 + f) (by omega), mk6_a hf]
  · rw [show o + 96 + f = o + (96 + f) by omega, h (96 + f) (by omega), mk6_b hf]
theorem X6_cells (σ : zSg) (o : Nat) : zwr σ o 191 cN6 = zwr (zwr (zwr σ o 1 (fun _ _ => 0)) (o + 1) 95 cF_new) (o + 96) 95 cF_new := by
  have e0 : zwr σ o 1 (fun _ _ => 0) = zwr σ o 1 cN6 := zwr_cg σ (fun f hf => by rw [show f = 0 by omega]; rfl)
  rw [e0, zwr_app σ (fun f hf => cN6_a hf), zwr_app σ (fun f hf => cN6_b hf)]
