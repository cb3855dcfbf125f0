/-! The class's digest -/
def cD_told (C : zSg) (i : Nat) (s : Int64) : Int64 := (List.range 5).foldl (fun s w => zdg s (cF_tell C i (nI w))) s
def cD_task (A : zSg) (i : Nat) (s : Int64) : Int64 := cD_told (cF_lent A) i (zdg (zdg (zdg (zdg (zdg (zdg (zdg s (A (ztk i) 5)) (cF_stepOf A i)) (A (ztk i) 8)) (cF_key A i (A 1 1))) (cF_lent A (ztk i) 15)) (cF_lent A (ztk i) 9)) (cF_lent A (ztk i) 10))
def cD_proc (C : zSg) (p : Nat) (s : Int64) : Int64 := (List.range 5).foldl (fun s b => zdg s (cF_ranIn C (nI p) (C 0 9 - nI (b + 1)))) (zdg s (cF_on C (nI p)))
def cD_head (A : zSg) : Int64 := zdg (zdg (zdg (zdg (zdg (zdg 58049 (A 0 9)) (A 0 10)) (A 1 0)) (A 3 0)) (A 3 1)) (cF_stuck A)
def cD_step (i : Nat) (s : zSg × Int64) : zSg × Int64 := (cF_lent s.1, cD_task s.1 i s.2)
theorem cD_step_1 (i : Nat) (s : zSg × Int64) : (cD_step i s).1 = cF_lent s.1 := by
  unfold cD_step
  dsimp only
theorem cD_step_2 (i : Nat) (s : zSg × Int64) : (cD_step i s).2 = cD_task s.1 i s.2 := by
  unfold cD_step
  dsimp only
def cD_tasks (A : zSg) : zSg × Int64 := (List.range (ix (A 0 10))).foldl (fun s i => cD_step i s) (A, cD_head A)
def cD_procs (C : zSg) (s : Int64) : Int64 := (List.range (ix (C 1 0))).foldl (fun s p => cD_proc C p s) s
def cD_used (C : zSg) (s : Int64) : Int64 := (List.range 4).foldl (fun s g => zdg s (C 9 (ix (nI g)))) s
def cD_locks (C : zSg) (s : Int64) : Int64 := (List.range 6).foldl (fun s q => zdg (zdg s (cF_holder C (nI q))) (cF_wt C 4 (nI q))) s
def cD_events (C : zSg) (s : Int64) : Int64 := (List.range 6).foldl (fun s q => zdg (zdg s (cF_number C (nI q))) (cF_wt C 5 (nI q))) s
def cD_rest (C : zSg) (s : Int64) : Int64 := cD_events C (cD_locks C (cD_used C (cD_procs C s)))
def cF_digest (A : zSg) : zSg × Int64 := ((cD_tasks A).1, cD_rest (cD_tasks A).1 (cD_tasks A).2)
theorem zlt_T' {a b : Nat} (hb : b ≤ 64) (h : a < b) : nI a < nI b := by
  rw [Int32.lt_iff_toInt_lt, nI_toInt (by omega), nI_toInt (by omega)]
  omega
theorem zlt_F' {a : Nat} : ¬ nI a < nI a := fun h => by rw [Int32.lt_iff_toInt_lt] at h; omega
theorem rt_lent (A : zSg) (t : Int32) : cF_rt (cF_lent A) t = cF_rt A t := by
  unfold cF_rt
  rw [cF_lent_fr A 0 10 (by omega)]
section ZLD
variable {G : zGm} {X : zCx} {own : String} {cc : ByteArray} {nL bc bs : Nat} {S : Nat → Prop} {ly : zLy} {τ : zTu} {σ : zSg} {pc : Nat} {ls : List (Option Value)} {st : List Value}
theorem zr_laddD (hO : zOk G X own cc nL) {s : Int64} {v : Int32} (hdg : decode cc pc = .ok (.ladd, 1)) (k : zV G X nL bc bs S ly τ σ (pc + 1) ls (.long (zdg s v) :: st)) : zV G X nL bc bs S ly τ σ pc ls (.long v.toInt64 :: .long (s * 31) :: st) := zr_ladd hO hdg k
end ZLD
theorem rt_nI {A : zSg} {n i : Nat} (hn : A 0 10 = nI n) (h16 : n ≤ 16) (hi : i < n) : cF_rt A (nI i) = some i := by
  unfold cF_rt
  rw [cF_at_nI (by omega)]
  dsimp only
  rw [hn, if_pos (zlt_T' (by omega) hi)]
theorem proc_nI {A : zSg} {n i : Nat} (hn : A 1 0 = nI n) (h3 : n ≤ 3) (hi : i < n) : cR_proc A (nI i) = none := by
  unfold cR_proc
  rw [if_neg (nI_pos (by omega)), hn, if_pos (zlt_T' (by omega) hi)]
theorem lock_nI {q : Nat} (hq : q < 6) : cR_lock (nI q) = none := by
  unfold cR_lock
  rw [if_neg (nI_pos (by omega)), if_pos (zlt_T (x := 6) (by decide) hq)]
set_option maxRecDepth 100000 in
set_option maxHeartbeats 1000000 in
theorem e_X6_digestTask {l : Launch} {G : zGm} {d n x o q : Nat} {ly : zLy} {τ : zTu} {σ M : zSg} {t : Int32} {i0 : Nat} {s : Int64} (htr : l.stackTraces = false) (hX : ly x = (6 + 5, 2, zcr6 o q)) (hM : zC ly o) (hd : 8 ≤ d) (hok : cF_rt M t = some i0) : zEv l G d 0 0 (yX6_digestTask, cX6_digestTask, 7, some .long) [.ref x, .long s, .int t] (fun x => n ≤ x) ly τ (zwr σ o 95 M) (zPl n ly τ (zwr σ o 95 (cF_lent M)) (some (.long (cD_task M i0 s)))) := by
  refine zEv_of (ls := [some (.ref x), some (.long s), none, some (.int t), none, none, none, none, none]) htr (by decide) (Nat.le_of_ble_eq_true rfl) rfl (fun X hO hE hN hRm hL hNm => ?_)
  have hO : zOk G X RX6 cX6_digestTask 7 := hO
  have hok2 : cF_rt (cF_lent M) t = some i0 := (rt_lent M t).trans hok
  refine zr_lload_1 hO dX6_digestTask_0 ?_
  refine zr_lstore_4 hO dX6_digestTask_1 (by decide) rfl ?_
  refine zr_lload_4 hO dX6_digestTask_3 ?_
  refine zr_ldc2 hO zlc_X6_220 rfl dX6_digestTask_5 ?_
  refine zr_lmul hO dX6_digestTask_8 ?_
  refine zV_pc (pc' := 9) rfl ?_
  refine zr_aload_0 hO dX6_digestTask_9 ?_
  refine zr_iload_3 hO dX6_digestTask_10 ?_
  refine zr_V1 (D := d) hO hRm hL (by omega) (by decide) (c := 6) (by decide) hX rfl rfl (e_X6_stateOf_k (d := d - 1) htr hX hM (by omega) hok) zl_X6_258 zi_X6_stateOf zs_X6_stateOf zc_X6_stateOf zn_X6 zd_X6_stateOf (Nat.le_of_ble_eq_true rfl) dX6_digestTask_11 (by omega) (by omega) ?_
  refine zr_i2l hO dX6_digestTask_14 ?_
  refine zr_laddD hO dX6_digestTask_15 ?_
  refine zr_lstore_4 hO dX6_digestTask_16 (by decide) rfl ?_
  refine zV_pc (pc' := 18) rfl ?_
  refine zr_lload_4 hO dX6_digestTask_18 ?_
  refine zr_ldc2 hO zlc_X6_220 rfl dX6_digestTask_20 ?_
  refine zr_lmul hO dX6_digestTask_23 ?_
  refine zr_aload_0 hO dX6_digestTask_24 ?_
  refine zr_iload_3 hO dX6_digestTask_25 ?_
  refine zr_V1 (D := d) hO hRm hL (by omega) (by decide) (c := 6) (by decide) hX rfl rfl (e_X6_stepOf_k (d := d - 1) htr hX hM (by omega) hok) zl_X6_261 zi_X6_stepOf zs_X6_stepOf zc_X6_stepOf zn_X6 zd_X6_stepOf (Nat.le_of_ble_eq_true rfl) dX6_digestTask_26 (by omega) (by omega) ?_
  refine zV_pc (pc' := 29) rfl ?_
  refine zr_i2l hO dX6_digestTask_29 ?_
  refine zr_laddD hO dX6_digestTask_30 ?_
  refine zr_lstore_4 hO dX6_digestTask_31 (by decide) rfl ?_
  refine zr_lload_4 hO dX6_digestTask_33 ?_
  refine zr_ldc2 hO zlc_X6_220 rfl dX6_digestTask_35 ?_
  refine zr_lmul hO dX6_digestTask_38 ?_
  refine zV_pc (pc' := 39) rfl ?_
  refine zr_aload_0 hO dX6_digestTask_39 ?_
  refine zr_iload_3 hO dX6_digestTask_40 ?_
  refine zr_V1 (D := d) hO hRm hL (by omega) (by decide) (c := 6) (by decide) hX rfl rfl (e_X6_roundsOf_k (d := d - 1) htr hX hM (by omega) hok) zl_X6_264 zi_X6_roundsOf zs_X6_roundsOf zc_X6_roundsOf zn_X6 zd_X6_roundsOf (Nat.le_of_ble_eq_true rfl) dX6_digestTask_41 (by omega) (by omega) ?_
  refine zr_i2l hO dX6_digestTask_44 ?_
  refine zr_laddD hO dX6_digestTask_45 ?_
  refine zr_lstore_4 hO dX6_digestTask_46 (by decide) rfl ?_
  refine zV_pc (pc' := 48) rfl ?_
  refine zr_lload_4 hO dX6_digestTask_48 ?_
  refine zr_ldc2 hO zlc_X6_220 rfl dX6_digestTask_50 ?_
  refine zr_lmul hO dX6_digestTask_53 ?_
  refine zr_aload_0 hO dX6_digestTask_54 ?_
  refine zr_iload_3 hO dX6_digestTask_55 ?_
  refine zr_V1 (D := d) hO hRm hL (by omega) (by decide) (c := 6) (by decide) hX rfl rfl (e_X6_keyOf_k (d := d - 1) htr hX hM (by omega) hok) zl_X6_267 zi_X6_keyOf zs_X6_keyOf zc_X6_keyOf zn_X6 zd_X6_keyOf (Nat.le_of_ble_eq_true rfl) dX6_digestTask_56 (by omega) (by omega) ?_
  refine zV_pc (pc' := 59) rfl ?_
  refine zr_i2l hO dX6_digestTask_59 ?_
  refine zr_laddD hO dX6_digestTask_60 ?_
  refine zr_lstore_4 hO dX6_digestTask_61 (by decide) rfl ?_
  refine zr_lload_4 hO dX6_digestTask_63 ?_
  refine zr_ldc2 hO zlc_X6_220 rfl dX6_digestTask_65 ?_
  refine zr_lmul hO dX6_digestTask_68 ?_
  refine zV_pc (pc' := 69) rfl ?_
  refine zr_aload_0 hO dX6_digestTask_69 ?_
  refine zr_iload_3 hO dX6_digestTask_70 ?_
  refine zr_V1 (D := d) hO hRm hL (by omega) (by decide) (c := 6) (by decide) hX rfl rfl (e_X6_lentKey_k (d := d - 1) htr hX hM (by omega) hok) zl_X6_270 zi_X6_lentKey zs_X6_lentKey zc_X6_lentKey zn_X6 zd_X6_lentKey (Nat.le_of_ble_eq_true rfl) dX6_digestTask_71 (by omega) (by omega) ?_
  refine zr_i2l hO dX6_digestTask_74 ?_
  refine zr_laddD hO dX6_digestTask_75 ?_
  refine zr_lstore_4 hO dX6_digestTask_76 (by decide) rfl ?_
  refine zV_pc (pc' := 78) rfl ?_
  refine zr_lload_4 hO dX6_digestTask_78 ?_
  refine zr_ldc2 hO zlc_X6_220 rfl dX6_digestTask_80 ?_
  refine zr_lmul hO dX6_digestTask_83 ?_
  refine zr_aload_0 hO dX6_digestTask_84 ?_
  refine zr_iload_3 hO dX6_digestTask_85 ?_
  refine zr_V1 (D := d) hO hRm hL (by omega) (by decide) (c := 6) (by decide) hX rfl rfl (e_X6_standOf_k (d := d - 1) htr hX hM (by omega) hok2) zl_X6_273 zi_X6_standOf zs_X6_standOf zc_X6_standOf zn_X6 zd_X6_standOf (Nat.le_of_ble_eq_true rfl) dX6_digestTask_86 (by omega) (by omega) ?_
  refine zV_pc (pc' := 89) rfl ?_
  refine zr_i2l hO dX6_digestTask_89 ?_
  refine zr_laddD hO dX6_digestTask_90 ?_
  refine zr_lstore_4 hO dX6_digestTask_91 (by decide) rfl ?_
  refine zr_lload_4 hO dX6_digestTask_93 ?_
  refine zr_ldc2 hO zlc_X6_220 rfl dX6_digestTask_95 ?_
  refine zr_lmul hO dX6_digestTask_98 ?_
  refine zV_pc (pc' := 99) rfl ?_
  refine zr_aload_0 hO dX6_digestTask_99 ?_
  refine zr_iload_3 hO dX6_digestTask_100 ?_
  refine zr_V1 (D := d) hO hRm hL (by omega) (by decide) (c := 6) (by decide) hX rfl rfl (e_X6_levelOf_k (d := d - 1) htr hX hM (by omega) hok2) zl_X6_276 zi_X6_levelOf zs_X6_levelOf zc_X6_levelOf zn_X6 zd_X6_levelOf (Nat.le_of_ble_eq_true rfl) dX6_digestTask_101 (by omega) (by omega) ?_
  refine zr_i2l hO dX6_digestTask_104 ?_
  refine zr_laddD hO dX6_digestTask_105 ?_
  refine zr_lstore_4 hO dX6_digestTask_106 (by decide) rfl ?_
  refine zV_pc (pc' := 108) rfl ?_
  refine zr_iconst (v := 0) hO dX6_digestTask_108 (by decide) ?_
  refine zr_istore_6 hO dX6_digestTask_109 (by decide) rfl ?_
  refine zV_pc (pc' := 111) rfl ?_
  rw [← nI_0]
  refine z_for (P := fun k s9 => zV G X 7 0 0 (fun x => n ≤ x) ly τ (zwr σ o 95 (cF_lent M)) 111 [some (.ref x), some (.long s), none, some (.int t), some (.long s9), none, some (.int (nI k)), none, none] []) 5 (fun w s => zdg s (cF_tell (cF_lent M) i0 (nI w))) (fun _ _ => True) _ trivial (fun _ _ _ _ => trivial) ?_ ?_
  · intro k s9 hk _ ih
    refine zr_iload_6 hO dX6_digestTask_111 ?_
    refine zr_iconst (v := 5) hO dX6_digestTask_113 (by decide) ?_
    refine zr_icmp_ge (tgt := 140) hO dX6_digestTask_114 (by decide) (fun c => absurd (zlt_T (x := 5) (by decide) hk) c) (fun c9 => ?_)
    refine zr_lload_4 hO dX6_digestTask_117 ?_
    refine zr_ldc2 hO zlc_X6_220 rfl dX6_digestTask_119 ?_
    refine zr_lmul hO dX6_digestTask_122 ?_
    refine zr_aload_0 hO dX6_digestTask_123 ?_
    refine zr_iload_3 hO dX6_digestTask_124 ?_
    refine zV_pc (pc' := 125) rfl ?_
    refine zr_iload_6 hO dX6_digestTask_125 ?_
    refine zr_V2 (D := d) hO hRm hL (by omega) (by decide) (c := 6) (by decide) hX rfl rfl (e_X6_told_k (d := d - 1) htr hX hM (by omega) hok2 (nI_pos (by omega)) (zlt_T (x := 5) (by decide) hk)) zl_X6_279 zi_X6_told zs_X6_told zc_X6_told zn_X6 zd_X6_told (Nat.le_of_ble_eq_true rfl) dX6_digestTask_127 (by omega) (by omega) ?_
    refine zr_i2l hO dX6_digestTask_130 ?_
    refine zr_laddD hO dX6_digestTask_131 ?_
    refine zr_lstore_4 hO dX6_digestTask_132 (by decide) rfl ?_
    refine zr_iinc_6 (v := 1) hO dX6_digestTask_134 (by decide) (by decide) rfl ?_
    refine zV_pc (pc' := 137) rfl ?_
    refine zr_goto (tgt := 111) hO dX6_digestTask_137 (by decide) ?_
    rw [nI_1]
    exact ih
  · intro _
    refine zr_iload_6 hO dX6_digestTask_111 ?_
    refine zr_iconst (v := 5) hO dX6_digestTask_113 (by decide) ?_
    refine zr_icmp_ge (tgt := 140) hO dX6_digestTask_114 (by decide) (fun c9 => ?_) (fun c => absurd c (zlt_F (x := 5) (by decide)))
    refine zr_lload_4 hO dX6_digestTask_140 ?_
    exact zr_lreturn hO hE dX6_digestTask_142 (fun z9 hz9 => ⟨rfl, hz9, rfl, rfl, rfl⟩)
set_option maxRecDepth 100000 in
set_option maxHeartbeats 1000000 in
theorem e_X6_digestProcessor {l : Launch} {G : zGm} {d n x o q : Nat} {ly : zLy} {τ : zTu} {σ M : zSg} {t : Int32} {s : Int64} {p0 : Nat} (htr : l.stackTraces = false) (hX : ly x = (6 + 5, 2, zcr6 o q)) (hM : zC ly o) (hd : 8 ≤ d) (ht : t = nI p0) (hok : cR_proc M t = none) : zEv l G d 0 0 (yX6_digestProcessor, cX6_digestProcessor, 7, some .long) [.ref x, .long s, .int t] (fun x => n ≤ x) ly τ (zwr σ o 95 M) (zPl n ly τ (zwr σ o 95 M) (some (.long (cD_proc M p0 s)))) := by
  refine zEv_of (ls := [some (.ref x), some (.long s), none, some (.int t), none, none, none, none, none]) htr (by decide) (Nat.le_of_ble_eq_true rfl) rfl (fun X hO hE hN hRm hL hNm => ?_)
  have hO : zOk G X RX6 cX6_digestProcessor 7 := hO
  have h1 : ∀ k, k < 5 → ¬ nI (k + 1) < 1 := by decide
  have h2 : ∀ k, k < 5 → ¬ 30 < nI (k + 1) := by decide
  have h3 : ∀ k, k < 5 → ¬ 5 < nI (k + 1) := by decide
  refine zr_lload_1 hO dX6_digestProcessor_0 ?_
  refine zr_ldc2 hO zlc_X6_220 rfl dX6_digestProcessor_1 ?_
  refine zr_lmul hO dX6_digestProcessor_4 ?_
  refine zr_aload_0 hO dX6_digestProcessor_5 ?_
  refine zr_iload_3 hO dX6_digestProcessor_6 ?_
  refine zV_pc (pc' := 7) rfl ?_
  refine zr_V1 (D := d) hO hRm hL (by omega) (by decide) (c := 6) (by decide) hX rfl rfl (e_X6_on_k (d := d - 1) htr hX hM (by omega) hok) zl_X6_282 zi_X6_on zs_X6_on zc_X6_on zn_X6 zd_X6_on (Nat.le_of_ble_eq_true rfl) dX6_digestProcessor_7 (by omega) (by omega) ?_
  refine zr_i2l hO dX6_digestProcessor_10 ?_
  refine zr_laddD hO dX6_digestProcessor_11 ?_
  refine zr_lstore_4 hO dX6_digestProcessor_12 (by decide) rfl ?_
  refine zr_iconst (v := 1) hO dX6_digestProcessor_14 (by decide) ?_
  refine zr_istore_6 hO dX6_digestProcessor_15 (by decide) rfl ?_
  refine zV_pc (pc' := 17) rfl ?_
  subst ht
  rw [show (1 : Int32) = nI (0 + 1) by decide]
  refine z_for (P := fun k s9 => zV G X 7 0 0 (fun x => n ≤ x) ly τ (zwr σ o 95 M) 17 [some (.ref x), some (.long s), none, some (.int (nI p0)), some (.long s9), none, some (.int (nI (k + 1))), none, none] []) 5 (fun b s => zdg s (cF_ranIn M (nI p0) (M 0 9 - nI (b + 1)))) (fun _ _ => True) _ trivial (fun _ _ _ _ => trivial) ?_ ?_
  · intro k s9 hk _ ih
    refine zr_iload_6 hO dX6_digestProcessor_17 ?_
    refine zr_iconst (v := 5) hO dX6_digestProcessor_19 (by decide) ?_
    refine zr_icmp_gt (tgt := 46) hO dX6_digestProcessor_20 (by decide) (fun c => absurd c (h3 k hk)) (fun c9 => ?_)
    refine zr_lload_4 hO dX6_digestProcessor_23 ?_
    refine zr_ldc2 hO zlc_X6_220 rfl dX6_digestProcessor_25 ?_
    refine zr_lmul hO dX6_digestProcessor_28 ?_
    refine zr_aload_0 hO dX6_digestProcessor_29 ?_
    refine zr_iload_3 hO dX6_digestProcessor_30 ?_
    refine zV_pc (pc' := 31) rfl ?_
    refine zr_iload_6 hO dX6_digestProcessor_31 ?_
    refine zr_V2 (D := d) hO hRm hL (by omega) (by decide) (c := 6) (by decide) hX rfl rfl (e_X6_ran_k (d := d - 1) htr hX hM (by omega) hok (h1 k hk) (h2 k hk)) zl_X6_285 zi_X6_ran zs_X6_ran zc_X6_ran zn_X6 zd_X6_ran (Nat.le_of_ble_eq_true rfl) dX6_digestProcessor_33 (by omega) (by omega) ?_
    refine zr_i2l hO dX6_digestProcessor_36 ?_
    refine zr_laddD hO dX6_digestProcessor_37 ?_
    refine zr_lstore_4 hO dX6_digestProcessor_38 (by decide) rfl ?_
    refine zr_iinc_6 (v := 1) hO dX6_digestProcessor_40 (by decide) (by decide) rfl ?_
    refine zV_pc (pc' := 43) rfl ?_
    refine zr_goto (tgt := 17) hO dX6_digestProcessor_43 (by decide) ?_
    rw [nI_1]
    exact ih
  · intro _
    refine zr_iload_6 hO dX6_digestProcessor_17 ?_
    refine zr_iconst (v := 5) hO dX6_digestProcessor_19 (by decide) ?_
    refine zr_icmp_gt (tgt := 46) hO dX6_digestProcessor_20 (by decide) (fun c9 => ?_) (fun c => absurd (show (5 : Int32) < nI (5 + 1) by decide) c)
    refine zr_lload_4 hO dX6_digestProcessor_46 ?_
    exact zr_lreturn hO hE dX6_digestProcessor_48 (fun z9 hz9 => ⟨rfl, hz9, rfl, rfl, rfl⟩)
set_option maxRecDepth 100000 in
set_option maxHeartbeats 1000000 in
theorem e_X6_digest {l : Launch} {G : zGm} {d n x o q : Nat} {ly : zLy} {τ : zTu} {σ M : zSg} {nn pp : Nat} (htr : l.stackTraces = false) (hX : ly x = (6 + 5, 2, zcr6 o q)) (hM : zC ly o) (hd : 9 ≤ d) (hn : M 0 10 = nI nn) (h16 : nn ≤ 16) (hp : M 1 0 = nI pp) (hp3 : pp ≤ 3) : zEv l G d 0 0 (yX6_digest, cX6_digest, 4, some .long) [.ref x] (fun x => n ≤ x) ly τ (zwr σ o 95 M) (zPl n ly τ (zwr σ o 95 (cF_digest M).1) (some (.long (cF_digest M).2))) := by
  refine zEv_of (ls := [some (.ref x), none, none, none, none, none, none, none, none]) htr (by decide) (Nat.le_of_ble_eq_true rfl) rfl (fun X hO hE hN hRm hL hNm => ?_)
  have hO : zOk G X RX6 cX6_digest 4 := hO
  have k188 : ∀ (C : zSg) (s : Int64), (C, cD_events C s) = cF_digest M → zV G X 4 0 0 (fun x => n ≤ x) ly τ (zwr σ o 95 C) 188 [some (.ref x), some (.long s), none, none, none, none, none, none, none] [] := by
    intro C s he
    refine zr_iconst (v := 0) hO dX6_digest_188 (by decide) ?_
    refine zr_istore_3 hO dX6_digest_189 (by decide) rfl ?_
    refine zV_pc (pc' := 190) rfl ?_
    rw [← nI_0]
    refine z_for (P := fun k s => zV G X 4 0 0 (fun x => n ≤ x) ly τ (zwr σ o 95 C) 190 [some (.ref x), some (.long s), none, some (.int (nI k)), none, none, none, none, none] []) 6 (fun q s => zdg (zdg s (cF_number C (nI q))) (cF_wt C 5 (nI q))) (fun _ _ => True) s trivial (fun _ _ _ _ => trivial) ?_ ?_
    · intro k s hk _ ih
      refine zr_iload_3 hO dX6_digest_190 ?_
      refine zr_bipush (v := 6) hO dX6_digest_191 (by decide) ?_
      refine zr_icmp_ge (tgt := 228) hO dX6_digest_193 (by decide) (fun c => absurd (zlt_T (x := 6) (by decide) hk) c) (fun c9 => ?_)
      refine zr_lload_1 hO dX6_digest_196 ?_
      refine zr_ldc2 hO zlc_X6_220 rfl dX6_digest_197 ?_
      refine zr_lmul hO dX6_digest_200 ?_
      refine zr_aload_0 hO dX6_digest_201 ?_
      refine zr_iload_3 hO dX6_digest_202 ?_
      refine zV_pc (pc' := 203) rfl ?_
      refine zr_V1 (D := d) hO hRm hL (by omega) (by decide) (c := 6) (by decide) hX rfl rfl (e_X6_number_k (d := d - 1) htr hX hM (by omega) (lock_nI hk)) zl_X6_252 zi_X6_number zs_X6_number zc_X6_number zn_X6 zd_X6_number (Nat.le_of_ble_eq_true rfl) dX6_digest_203 (by omega) (by omega) ?_
      refine zr_i2l hO dX6_digest_206 ?_
      refine zr_laddD hO dX6_digest_207 ?_
      refine zr_lstore_1 hO dX6_digest_208 (by decide) rfl ?_
      refine zr_lload_1 hO dX6_digest_209 ?_
      refine zr_ldc2 hO zlc_X6_220 rfl dX6_digest_210 ?_
      refine zV_pc (pc' := 213) rfl ?_
      refine zr_lmul hO dX6_digest_213 ?_
      refine zr_aload_0 hO dX6_digest_214 ?_
      refine zr_iload_3 hO dX6_digest_215 ?_
      refine zr_V1 (D := d) hO hRm hL (by omega) (by decide) (c := 6) (by decide) hX rfl rfl (e_X6_awaiting_k (d := d - 1) htr hX hM (by omega) (lock_nI hk)) zl_X6_255 zi_X6_awaiting zs_X6_awaiting zc_X6_awaiting zn_X6 zd_X6_awaiting (Nat.le_of_ble_eq_true rfl) dX6_digest_216 (by omega) (by omega) ?_
      refine zr_i2l hO dX6_digest_219 ?_
      refine zr_laddD hO dX6_digest_220 ?_
      refine zV_pc (pc' := 221) rfl ?_
      refine zr_lstore_1 hO dX6_digest_221 (by decide) rfl ?_
      refine zr_iinc_3 (v := 1) hO dX6_digest_222 (by decide) (by decide) rfl ?_
      refine zr_goto (tgt := 190) hO dX6_digest_225 (by decide) ?_
      rw [nI_1]
      exact ih
    · intro _
      refine zr_iload_3 hO dX6_digest_190 ?_
      refine zr_bipush (v := 6) hO dX6_digest_191 (by decide) ?_
      refine zr_icmp_ge (tgt := 228) hO dX6_digest_193 (by decide) (fun c9 => ?_) (fun c => absurd c (zlt_F (x := 6) (by decide)))
      refine zV_pc (pc' := 228) rfl ?_
      refine zV_d3 ?_
      refine zr_lload_1 hO dX6_digest_228 ?_
      exact zr_lreturn hO hE dX6_digest_229 (fun z9 hz9 => by
        rw [← he]
        exact ⟨rfl, hz9, rfl, rfl, rfl⟩)
  have k148 : ∀ (C : zSg) (s : Int64), (C, cD_events C (cD_locks C s)) = cF_digest M → zV G X 4 0 0 (fun x => n ≤ x) ly τ (zwr σ o 95 C) 148 [some (.ref x), some (.long s), none, none, none, none, none, none, none] [] := by
    intro C s he
    refine zr_iconst (v := 0) hO dX6_digest_148 (by decide) ?_
    refine zr_istore_3 hO dX6_digest_149 (by decide) rfl ?_
    refine zV_pc (pc' := 150) rfl ?_
    rw [← nI_0]
    refine z_for (P := fun k s => zV G X 4 0 0 (fun x => n ≤ x) ly τ (zwr σ o 95 C) 150 [some (.ref x), some (.long s), none, some (.int (nI k)), none, none, none, none, none] []) 6 (fun q s => zdg (zdg s (cF_holder C (nI q))) (cF_wt C 4 (nI q))) (fun _ _ => True) s trivial (fun _ _ _ _ => trivial) ?_ ?_
    · intro k s hk _ ih
      refine zr_iload_3 hO dX6_digest_150 ?_
      refine zr_bipush (v := 6) hO dX6_digest_151 (by decide) ?_
      refine zr_icmp_ge (tgt := 188) hO dX6_digest_153 (by decide) (fun c => absurd (zlt_T (x := 6) (by decide) hk) c) (fun c9 => ?_)
      refine zr_lload_1 hO dX6_digest_156 ?_
      refine zr_ldc2 hO zlc_X6_220 rfl dX6_digest_157 ?_
      refine zr_lmul hO dX6_digest_160 ?_
      refine zr_aload_0 hO dX6_digest_161 ?_
      refine zr_iload_3 hO dX6_digest_162 ?_
      refine zV_pc (pc' := 163) rfl ?_
      refine zr_V1 (D := d) hO hRm hL (by omega) (by decide) (c := 6) (by decide) hX rfl rfl (e_X6_holder_k (d := d - 1) htr hX hM (by omega) (lock_nI hk)) zl_X6_246 zi_X6_holder zs_X6_holder zc_X6_holder zn_X6 zd_X6_holder (Nat.le_of_ble_eq_true rfl) dX6_digest_163 (by omega) (by omega) ?_
      refine zr_i2l hO dX6_digest_166 ?_
      refine zr_laddD hO dX6_digest_167 ?_
      refine zr_lstore_1 hO dX6_digest_168 (by decide) rfl ?_
      refine zr_lload_1 hO dX6_digest_169 ?_
      refine zr_ldc2 hO zlc_X6_220 rfl dX6_digest_170 ?_
      refine zV_pc (pc' := 173) rfl ?_
      refine zr_lmul hO dX6_digest_173 ?_
      refine zr_aload_0 hO dX6_digest_174 ?_
      refine zr_iload_3 hO dX6_digest_175 ?_
      refine zr_V1 (D := d) hO hRm hL (by omega) (by decide) (c := 6) (by decide) hX rfl rfl (e_X6_blocked_k (d := d - 1) htr hX hM (by omega) (lock_nI hk)) zl_X6_249 zi_X6_blocked zs_X6_blocked zc_X6_blocked zn_X6 zd_X6_blocked (Nat.le_of_ble_eq_true rfl) dX6_digest_176 (by omega) (by omega) ?_
      refine zr_i2l hO dX6_digest_179 ?_
      refine zr_laddD hO dX6_digest_180 ?_
      refine zV_pc (pc' := 181) rfl ?_
      refine zr_lstore_1 hO dX6_digest_181 (by decide) rfl ?_
      refine zr_iinc_3 (v := 1) hO dX6_digest_182 (by decide) (by decide) rfl ?_
      refine zr_goto (tgt := 150) hO dX6_digest_185 (by decide) ?_
      rw [nI_1]
      exact ih
    · intro _
      refine zr_iload_3 hO dX6_digest_150 ?_
      refine zr_bipush (v := 6) hO dX6_digest_151 (by decide) ?_
      refine zr_icmp_ge (tgt := 188) hO dX6_digest_153 (by decide) (fun c9 => ?_) (fun c => absurd c (zlt_F (x := 6) (by decide)))
      refine zV_pc (pc' := 188) rfl ?_
      refine zV_d3 ?_
      exact k188 C _ he
  have k122 : ∀ (C : zSg) (s : Int64), (C, cD_events C (cD_locks C (cD_used C s))) = cF_digest M → zV G X 4 0 0 (fun x => n ≤ x) ly τ (zwr σ o 95 C) 122 [some (.ref x), some (.long s), none, none, none, none, none, none, none] [] := by
    intro C s he
    refine zr_iconst (v := 0) hO dX6_digest_122 (by decide) ?_
    refine zr_istore_3 hO dX6_digest_123 (by decide) rfl ?_
    refine zV_pc (pc' := 124) rfl ?_
    rw [← nI_0]
    refine z_for (P := fun k s => zV G X 4 0 0 (fun x => n ≤ x) ly τ (zwr σ o 95 C) 124 [some (.ref x), some (.long s), none, some (.int (nI k)), none, none, none, none, none] []) 4 (fun g s => zdg s (C 9 (ix (nI g)))) (fun _ _ => True) s trivial (fun _ _ _ _ => trivial) ?_ ?_
    · intro k s hk _ ih
      refine zr_iload_3 hO dX6_digest_124 ?_
      refine zr_iconst (v := 4) hO dX6_digest_125 (by decide) ?_
      refine zr_icmp_ge (tgt := 148) hO dX6_digest_126 (by decide) (fun c => absurd (zlt_T (x := 4) (by decide) hk) c) (fun c9 => ?_)
      refine zr_lload_1 hO dX6_digest_129 ?_
      refine zr_ldc2 hO zlc_X6_220 rfl dX6_digest_130 ?_
      refine zr_lmul hO dX6_digest_133 ?_
      refine zr_aload_0 hO dX6_digest_134 ?_
      refine zr_iload_3 hO dX6_digest_135 ?_
      refine zV_pc (pc' := 136) rfl ?_
      refine zr_V1 (D := d) hO hRm hL (by omega) (by decide) (c := 6) (by decide) hX rfl rfl (e_X6_used_k (d := d - 1) htr hX hM (by omega) (nI_pos (by omega)) (zlt_T (x := 4) (by decide) hk)) zl_X6_243 zi_X6_used zs_X6_used zc_X6_used zn_X6 zd_X6_used (Nat.le_of_ble_eq_true rfl) dX6_digest_136 (by omega) (by omega) ?_
      refine zr_i2l hO dX6_digest_139 ?_
      refine zr_laddD hO dX6_digest_140 ?_
      refine zr_lstore_1 hO dX6_digest_141 (by decide) rfl ?_
      refine zr_iinc_3 (v := 1) hO dX6_digest_142 (by decide) (by decide) rfl ?_
      refine zr_goto (tgt := 124) hO dX6_digest_145 (by decide) ?_
      rw [nI_1]
      exact ih
    · intro _
      refine zr_iload_3 hO dX6_digest_124 ?_
      refine zr_iconst (v := 4) hO dX6_digest_125 (by decide) ?_
      refine zr_icmp_ge (tgt := 148) hO dX6_digest_126 (by decide) (fun c9 => ?_) (fun c => absurd c (zlt_F (x := 4) (by decide)))
      refine zV_pc (pc' := 148) rfl ?_
      refine zV_d3 ?_
      exact k148 C _ he
  have k99 : ∀ (C : zSg) (s : Int64), C 1 0 = nI pp → (C, cD_rest C s) = cF_digest M → zV G X 4 0 0 (fun x => n ≤ x) ly τ (zwr σ o 95 C) 99 [some (.ref x), some (.long s), none, none, none, none, none, none, none] [] := by
    intro C s h1 he
    refine zr_iconst (v := 0) hO dX6_digest_99 (by decide) ?_
    refine zr_istore_3 hO dX6_digest_100 (by decide) rfl ?_
    refine zV_pc (pc' := 101) rfl ?_
    rw [← nI_0]
    refine z_for (P := fun k s => zV G X 4 0 0 (fun x => n ≤ x) ly τ (zwr σ o 95 C) 101 [some (.ref x), some (.long s), none, some (.int (nI k)), none, none, none, none, none] []) pp (fun p s => cD_proc C p s) (fun _ _ => True) s trivial (fun _ _ _ _ => trivial) ?_ ?_
    · intro k s hk _ ih
      refine zr_iload_3 hO dX6_digest_101 ?_
      refine zr_aload_0 hO dX6_digest_102 ?_
      refine zr_V0 (D := d) hO hRm hL (by omega) (by decide) (c := 6) (by decide) hX rfl rfl (e_X6_processors (d := d - 1) htr hX hM (by omega)) zl_X6_227 zi_X6_processors zs_X6_processors zc_X6_processors zn_X6 zd_X6_processors (Nat.le_of_ble_eq_true rfl) dX6_digest_103 (by omega) (by omega) ?_
      rw [h1]
      refine zV_pc (pc' := 106) rfl ?_
      refine zr_icmp_ge (tgt := 122) hO dX6_digest_106 (by decide) (fun c => absurd (zlt_T' (by omega) hk) c) (fun c9 => ?_)
      refine zr_aload_0 hO dX6_digest_109 ?_
      refine zr_lload_1 hO dX6_digest_110 ?_
      refine zr_iload_3 hO dX6_digest_111 ?_
      refine zr_V2 (D := d) hO hRm hL (by omega) (by decide) (c := 6) (by decide) hX rfl rfl (e_X6_digestProcessor (d := d - 1) htr hX hM (by omega) rfl (proc_nI h1 hp3 hk)) zl_X6_240 zi_X6_digestProcessor zs_X6_digestProcessor zc_X6_digestProcessor zn_X6 zd_X6_digestProcessor (Nat.le_of_ble_eq_true rfl) dX6_digest_112 (by omega) (by omega) ?_
      refine zr_lstore_1 hO dX6_digest_115 (by decide) rfl ?_
      refine zV_pc (pc' := 116) rfl ?_
      refine zr_iinc_3 (v := 1) hO dX6_digest_116 (by decide) (by decide) rfl ?_
      refine zr_goto (tgt := 101) hO dX6_digest_119 (by decide) ?_
      rw [nI_1]
      exact ih
    · intro _
      refine zr_iload_3 hO dX6_digest_101 ?_
      refine zr_aload_0 hO dX6_digest_102 ?_
      refine zr_V0 (D := d) hO hRm hL (by omega) (by decide) (c := 6) (by decide) hX rfl rfl (e_X6_processors (d := d - 1) htr hX hM (by omega)) zl_X6_227 zi_X6_processors zs_X6_processors zc_X6_processors zn_X6 zd_X6_processors (Nat.le_of_ble_eq_true rfl) dX6_digest_103 (by omega) (by omega) ?_
      rw [h1]
      refine zV_pc (pc' := 106) rfl ?_
      refine zr_icmp_ge (tgt := 122) hO dX6_digest_106 (by decide) (fun c9 => ?_) (fun c => absurd c zlt_F')
      refine zV_pc (pc' := 122) rfl ?_
      refine zV_d3 ?_
      refine k122 C _ ?_
      rw [← he, cD_rest, cD_procs, h1, zix (by omega)]
  have k78 : ∀ s : Int64, (List.range nn).foldl (fun s i => cD_step i s) (M, s) = cD_tasks M → zV G X 4 0 0 (fun x => n ≤ x) ly τ (zwr σ o 95 M) 78 [some (.ref x), some (.long s), none, some (.int (nI 0)), none, none, none, none, none] [] := by
    intro s hs
    refine z_for (P := fun k (s : zSg × Int64) => zV G X 4 0 0 (fun x => n ≤ x) ly τ (zwr σ o 95 s.1) 78 [some (.ref x), some (.long s.2), none, some (.int (nI k)), none, none, none, none, none] []) nn (fun i s => cD_step i s) (fun _ s => s.1 0 10 = nI nn ∧ s.1 1 0 = nI pp) (M, s) ⟨hn, hp⟩ (fun i s _ h => by rw [cD_step_1]; exact ⟨(cF_lent_fr s.1 0 10 (by omega)).trans h.1, (cF_lent_fr s.1 1 0 (by omega)).trans h.2⟩) ?_ ?_
    · intro k s hk hI ih
      refine zr_iload_3 hO dX6_digest_78 ?_
      refine zr_aload_0 hO dX6_digest_79 ?_
      refine zr_V0 (D := d) hO hRm hL (by omega) (by decide) (c := 6) (by decide) hX rfl rfl (e_X6_tasks (d := d - 1) htr hX hM (by omega)) zl_X6_224 zi_X6_tasks zs_X6_tasks zc_X6_tasks zn_X6 zd_X6_tasks (Nat.le_of_ble_eq_true rfl) dX6_digest_80 (by omega) (by omega) ?_
      rw [hI.1]
      refine zV_pc (pc' := 83) rfl ?_
      refine zr_icmp_ge (tgt := 99) hO dX6_digest_83 (by decide) (fun c => absurd (zlt_T' (by omega) hk) c) (fun c9 => ?_)
      refine zr_aload_0 hO dX6_digest_86 ?_
      refine zr_lload_1 hO dX6_digest_87 ?_
      refine zr_iload_3 hO dX6_digest_88 ?_
      refine zr_V2 (D := d) hO hRm hL (by omega) (by decide) (c := 6) (by decide) hX rfl rfl (e_X6_digestTask (d := d - 1) htr hX hM (by omega) (rt_nI hI.1 h16 hk)) zl_X6_236 zi_X6_digestTask zs_X6_digestTask zc_X6_digestTask zn_X6 zd_X6_digestTask (Nat.le_of_ble_eq_true rfl) dX6_digest_89 (by omega) (by omega) ?_
      refine zr_lstore_1 hO dX6_digest_92 (by decide) rfl ?_
      refine zV_pc (pc' := 93) rfl ?_
      refine zr_iinc_3 (v := 1) hO dX6_digest_93 (by decide) (by decide) rfl ?_
      refine zr_goto (tgt := 78) hO dX6_digest_96 (by decide) ?_
      rw [nI_1]
      rw [cD_step_1, cD_step_2] at ih
      exact ih
    · intro hI
      refine zr_iload_3 hO dX6_digest_78 ?_
      refine zr_aload_0 hO dX6_digest_79 ?_
      refine zr_V0 (D := d) hO hRm hL (by omega) (by decide) (c := 6) (by decide) hX rfl rfl (e_X6_tasks (d := d - 1) htr hX hM (by omega)) zl_X6_224 zi_X6_tasks zs_X6_tasks zc_X6_tasks zn_X6 zd_X6_tasks (Nat.le_of_ble_eq_true rfl) dX6_digest_80 (by omega) (by omega) ?_
      rw [hI.1]
      refine zV_pc (pc' := 83) rfl ?_
      refine zr_icmp_ge (tgt := 99) hO dX6_digest_83 (by decide) (fun c9 => ?_) (fun c => absurd c zlt_F')
      refine zV_pc (pc' := 99) rfl ?_
      refine zV_d3 ?_
      refine k99 _ _ hI.2 ?_
      rw [cF_digest, ← hs]
  refine zr_ldc2 hO zlc_X6_218 rfl dX6_digest_0 ?_
  refine zr_lstore_1 hO dX6_digest_3 (by decide) rfl ?_
  refine zr_lload_1 hO dX6_digest_4 ?_
  refine zr_ldc2 hO zlc_X6_220 rfl dX6_digest_5 ?_
  refine zr_lmul hO dX6_digest_8 ?_
  refine zV_pc (pc' := 9) rfl ?_
  refine zr_aload_0 hO dX6_digest_9 ?_
  refine zr_V0 (D := d) hO hRm hL (by omega) (by decide) (c := 6) (by decide) hX rfl rfl (e_X6_clock (d := d - 1) htr hX hM (by omega)) zl_X6_222 zi_X6_clock zs_X6_clock zc_X6_clock zn_X6 zd_X6_clock (Nat.le_of_ble_eq_true rfl) dX6_digest_10 (by omega) (by omega) ?_
  refine zr_i2l hO dX6_digest_13 ?_
  refine zr_laddD hO dX6_digest_14 ?_
  refine zr_lstore_1 hO dX6_digest_15 (by decide) rfl ?_
  refine zr_lload_1 hO dX6_digest_16 ?_
  refine zV_pc (pc' := 17) rfl ?_
  refine zr_ldc2 hO zlc_X6_220 rfl dX6_digest_17 ?_
  refine zr_lmul hO dX6_digest_20 ?_
  refine zr_aload_0 hO dX6_digest_21 ?_
  refine zr_V0 (D := d) hO hRm hL (by omega) (by decide) (c := 6) (by decide) hX rfl rfl (e_X6_tasks (d := d - 1) htr hX hM (by omega)) zl_X6_224 zi_X6_tasks zs_X6_tasks zc_X6_tasks zn_X6 zd_X6_tasks (Nat.le_of_ble_eq_true rfl) dX6_digest_22 (by omega) (by omega) ?_
  refine zr_i2l hO dX6_digest_25 ?_
  refine zr_laddD hO dX6_digest_26 ?_
  refine zV_pc (pc' := 27) rfl ?_
  refine zr_lstore_1 hO dX6_digest_27 (by decide) rfl ?_
  refine zr_lload_1 hO dX6_digest_28 ?_
  refine zr_ldc2 hO zlc_X6_220 rfl dX6_digest_29 ?_
  refine zr_lmul hO dX6_digest_32 ?_
  refine zr_aload_0 hO dX6_digest_33 ?_
  refine zr_V0 (D := d) hO hRm hL (by omega) (by decide) (c := 6) (by decide) hX rfl rfl (e_X6_processors (d := d - 1) htr hX hM (by omega)) zl_X6_227 zi_X6_processors zs_X6_processors zc_X6_processors zn_X6 zd_X6_processors (Nat.le_of_ble_eq_true rfl) dX6_digest_34 (by omega) (by omega) ?_
  refine zV_pc (pc' := 37) rfl ?_
  refine zr_i2l hO dX6_digest_37 ?_
  refine zr_laddD hO dX6_digest_38 ?_
  refine zr_lstore_1 hO dX6_digest_39 (by decide) rfl ?_
  refine zr_lload_1 hO dX6_digest_40 ?_
  refine zr_ldc2 hO zlc_X6_220 rfl dX6_digest_41 ?_
  refine zr_lmul hO dX6_digest_44 ?_
  refine zV_pc (pc' := 45) rfl ?_
  refine zr_aload_0 hO dX6_digest_45 ?_
  refine zr_V0 (D := d) hO hRm hL (by omega) (by decide) (c := 6) (by decide) hX rfl rfl (e_X6_switches (d := d - 1) htr hX hM (by omega)) zl_X6_229 zi_X6_switches zs_X6_switches zc_X6_switches zn_X6 zd_X6_switches (Nat.le_of_ble_eq_true rfl) dX6_digest_46 (by omega) (by omega) ?_
  refine zr_i2l hO dX6_digest_49 ?_
  refine zr_laddD hO dX6_digest_50 ?_
  refine zr_lstore_1 hO dX6_digest_51 (by decide) rfl ?_
  refine zr_lload_1 hO dX6_digest_52 ?_
  refine zV_pc (pc' := 53) rfl ?_
  refine zr_ldc2 hO zlc_X6_220 rfl dX6_digest_53 ?_
  refine zr_lmul hO dX6_digest_56 ?_
  refine zr_aload_0 hO dX6_digest_57 ?_
  refine zr_V0 (D := d) hO hRm hL (by omega) (by decide) (c := 6) (by decide) hX rfl rfl (e_X6_idle (d := d - 1) htr hX hM (by omega)) zl_X6_231 zi_X6_idle zs_X6_idle zc_X6_idle zn_X6 zd_X6_idle (Nat.le_of_ble_eq_true rfl) dX6_digest_58 (by omega) (by omega) ?_
  refine zr_i2l hO dX6_digest_61 ?_
  refine zr_laddD hO dX6_digest_62 ?_
  refine zV_pc (pc' := 63) rfl ?_
  refine zr_lstore_1 hO dX6_digest_63 (by decide) rfl ?_
  refine zr_lload_1 hO dX6_digest_64 ?_
  refine zr_ldc2 hO zlc_X6_220 rfl dX6_digest_65 ?_
  refine zr_lmul hO dX6_digest_68 ?_
  refine zr_aload_0 hO dX6_digest_69 ?_
  refine zr_V0 (D := d) hO hRm hL (by omega) (by decide) (c := 6) (by decide) hX rfl rfl (e_X6_stuck (d := d - 1) htr hX hM (by omega)) zl_X6_233 zi_X6_stuck zs_X6_stuck zc_X6_stuck zn_X6 zd_X6_stuck (Nat.le_of_ble_eq_true rfl) dX6_digest_70 (by omega) (by omega) ?_
  refine zV_pc (pc' := 73) rfl ?_
  refine zr_i2l hO dX6_digest_73 ?_
  refine zr_laddD hO dX6_digest_74 ?_
  refine zr_lstore_1 hO dX6_digest_75 (by decide) rfl ?_
  refine zr_iconst (v := 0) hO dX6_digest_76 (by decide) ?_
  refine zr_istore_3 hO dX6_digest_77 (by decide) rfl ?_
  refine zV_pc (pc' := 78) rfl ?_
  rw [← nI_0]
  refine k78 _ ?_
  rw [cD_tasks, cD_head, hn, zix (by omega)]
