/-! The law: its loop -/
theorem and63 (v : Int32) : 0 ≤ (v &&& 63).toInt ∧ (v &&& 63).toInt ≤ 63 := by
  have h : (v &&& 63).toBitVec.toNat ≤ 63 := by
    rw [Int32.toBitVec_and, BitVec.toNat_and]
    exact Nat.le_trans Nat.and_le_right (by decide)
  have e : (v &&& 63).toInt = (v &&& 63).toBitVec.toInt := rfl
  rw [e, BitVec.toInt_eq_toNat_of_lt (by omega)]
  omega
theorem len4 {L : Nat} (h : L ≤ 2048) : (Int32.ofNat L - 4).toInt = (L : Int) - 4 := by
  have e : (Int32.ofNat L).toInt = L := nI_toInt (by omega)
  rw [fb_subI (y := 4) (by rw [e, show (4 : Int32).toInt = 4 from rfl]; omega) (by rw [e, show (4 : Int32).toInt = 4 from rfl]; omega), e]
  rfl
set_option maxRecDepth 100000 in
set_option maxHeartbeats 4000000 in
theorem law_loop {G : zGm} {X : zCx} {l : Launch} {D x w n : Nat} {ly : zLy} {σ : zSg} (H : zLw G X l D ly x w n) (hend : ∀ (τ : zTu) (σ' : zSg) (ls : List (Option Value)), zV G X 9 0 0 (fun z => n ≤ z) ly τ σ' 2179 ls []) : ∀ j i, 2048 ≤ i + 4 * j → i ≤ 4096 → zHead G X ly σ x w n j i := by
  have hH := H
  obtain ⟨⟨hO, hRm, hL, hD, htr⟩, ⟨hX, hA, hB, hM, hw⟩, ⟨hxw, hwn⟩, hz, hLL⟩ := hH
  have l4 := len4 hLL
  intro j
  induction j with
  | zero =>
    intro i h1 h2 τ A B M nn K hQ hU hK
    have ei : (nI i).toInt = i := nI_toInt (by omega)
    refine zr_iload_4 hO dL_law_23 ?_
    refine zr_aload_0 hO dL_law_25 ?_
    refine zr_slen hO dL_law_26 ?_
    refine zr_iconst (v := 4) hO dL_law_27 (by decide) ?_
    refine zr_isub hO dL_law_28 ?_
    refine zr_icmp_gt (tgt := 2179) hO dL_law_29 (by decide) (fun c => ?_) (fun c => ?_)
    · exact zV_b (Nat.zero_le _) (Nat.zero_le _) (hend _ _ _)
    · rw [i_lt, l4, ei] at c
      omega
  | succ j ih =>
    intro i h1 h2 τ A B M nn K hQ hU hK
    have ei : (nI i).toInt = i := nI_toInt (by omega)
    refine zr_iload_4 hO dL_law_23 ?_
    refine zr_aload_0 hO dL_law_25 ?_
    refine zr_slen hO dL_law_26 ?_
    refine zr_iconst (v := 4) hO dL_law_27 (by decide) ?_
    refine zr_isub hO dL_law_28 ?_
    refine zr_icmp_gt (tgt := 2179) hO dL_law_29 (by decide) (fun c => ?_) (fun c => ?_)
    · exact zV_b (Nat.zero_le _) (Nat.zero_le _) (hend _ _ _)
    rw [i_lt, l4, ei] at c
    have hi : i + 4 ≤ G.2.2.2.2.1 := by omega
    have hn := ih (i + 4) (by omega) (by omega)
    refine zr_aload_0 hO dL_law_32 ?_
    refine zr_iload_4 hO dL_law_33 ?_
    refine zV_pc (pc' := 35) rfl ?_
    refine zr_sld hO (sidx (k := 0) hLL hi (by decide)) dL_law_35 ?_
    refine zr_bipush (v := 63) hO dL_law_36 (by decide) ?_
    refine zr_iand hO dL_law_38 ?_
    have hop := and63 (G.2.2.2.2.2 (ix (nI i)))
    generalize G.2.2.2.2.2 (ix (nI i)) &&& 63 = op at hop ⊢
    by_cases c37 : op.toInt ≤ 37
    rotate_left
    · exact zr_tabOut hO dL_law_39 (tgt := 2173) (Or.inr (by omega)) (by decide) (t_end H hn hQ hU (by omega) (by omega) (by omega))
    obtain ⟨q, hq, rfl⟩ := of_rng (v := op) (n := 38) hop.1 (by omega)
    clear hop c37
    match q, hq with
    | 0, _ => exact zr_tabIn hO dL_law_39 (off := 165) (tgt := 204) (by decide) (by decide) rfl (by decide) (tu_setProcessors H hn hQ hU hK hi)
    | 1, _ => exact zr_tabIn hO dL_law_39 (off := 221) (tgt := 260) (by decide) (by decide) rfl (by decide) (tu_setWay H hn hQ hU hK hi)
    | 2, _ => exact zr_tabIn hO dL_law_39 (off := 301) (tgt := 340) (by decide) (by decide) rfl (by decide) (tu_setQuota H hn hQ hU hK hi)
    | 3, _ => exact zr_tabIn hO dL_law_39 (off := 369) (tgt := 408) (by decide) (by decide) rfl (by decide) (tu_setPeriod H hn hQ hU hK hi)
    | 4, _ => exact zr_tabIn hO dL_law_39 (off := 425) (tgt := 464) (by decide) (by decide) rfl (by decide) (tu_addTask H hn hQ hU hK hi)
    | 5, _ => exact zr_tabIn hO dL_law_39 (off := 505) (tgt := 544) (by decide) (by decide) rfl (by decide) (tu_addStep H hn hQ hU hK hi)
    | 6, _ => exact zr_tabIn hO dL_law_39 (off := 585) (tgt := 624) (by decide) (by decide) rfl (by decide) (tu_start H hn hQ hU hK hi)
    | 7, _ => exact zr_tabIn hO dL_law_39 (off := 641) (tgt := 680) (by decide) (by decide) rfl (by decide) (tu_setRank H hn hQ hU hK hi)
    | 8, _ => exact zr_tabIn hO dL_law_39 (off := 709) (tgt := 748) (by decide) (by decide) rfl (by decide) (tu_end H hn hQ hU hK hi)
    | 9, _ => exact zr_tabIn hO dL_law_39 (off := 765) (tgt := 804) (by decide) (by decide) rfl (by decide) (tu_signal H hn hQ hU hK hi)
    | 10, _ => exact zr_tabIn hO dL_law_39 (off := 821) (tgt := 860) (by decide) (by decide) rfl (by decide) (tu_tick H hn hQ hU hK hi)
    | 11, _ => exact zr_tabIn hO dL_law_39 (off := 877) (tgt := 916) (by decide) (by decide) rfl (by decide) (tu_clock H hn hQ hU hK hi)
    | 12, _ => exact zr_tabIn hO dL_law_39 (off := 890) (tgt := 929) (by decide) (by decide) rfl (by decide) (tu_tasks H hn hQ hU hK hi)
    | 13, _ => exact zr_tabIn hO dL_law_39 (off := 903) (tgt := 942) (by decide) (by decide) rfl (by decide) (tu_stateOf H hn hQ hU hK hi)
    | 14, _ => exact zr_tabIn hO dL_law_39 (off := 959) (tgt := 998) (by decide) (by decide) rfl (by decide) (tu_stepOf H hn hQ hU hK hi)
    | 15, _ => exact zr_tabIn hO dL_law_39 (off := 1015) (tgt := 1054) (by decide) (by decide) rfl (by decide) (tu_roundsOf H hn hQ hU hK hi)
    | 16, _ => exact zr_tabIn hO dL_law_39 (off := 1071) (tgt := 1110) (by decide) (by decide) rfl (by decide) (tu_keyOf H hn hQ hU hK hi)
    | 17, _ => exact zr_tabIn hO dL_law_39 (off := 1127) (tgt := 1166) (by decide) (by decide) rfl (by decide) (tu_lentKey H hn hQ hU hK hi)
    | 18, _ => exact zr_tabIn hO dL_law_39 (off := 1183) (tgt := 1222) (by decide) (by decide) rfl (by decide) (tu_standOf H hn hQ hU hK hi)
    | 19, _ => exact zr_tabIn hO dL_law_39 (off := 1239) (tgt := 1278) (by decide) (by decide) rfl (by decide) (tu_levelOf H hn hQ hU hK hi)
    | 20, _ => exact zr_tabIn hO dL_law_39 (off := 1295) (tgt := 1334) (by decide) (by decide) rfl (by decide) (tu_told H hn hQ hU hK hi)
    | 21, _ => exact zr_tabIn hO dL_law_39 (off := 1363) (tgt := 1402) (by decide) (by decide) rfl (by decide) (tu_processors H hn hQ hU hK hi)
    | 22, _ => exact zr_tabIn hO dL_law_39 (off := 1376) (tgt := 1415) (by decide) (by decide) rfl (by decide) (tu_on H hn hQ hU hK hi)
    | 23, _ => exact zr_tabIn hO dL_law_39 (off := 1432) (tgt := 1471) (by decide) (by decide) rfl (by decide) (tu_ran H hn hQ hU hK hi)
    | 24, _ => exact zr_tabIn hO dL_law_39 (off := 1500) (tgt := 1539) (by decide) (by decide) rfl (by decide) (tu_switches H hn hQ hU hK hi)
    | 25, _ => exact zr_tabIn hO dL_law_39 (off := 1513) (tgt := 1552) (by decide) (by decide) rfl (by decide) (tu_idle H hn hQ hU hK hi)
    | 26, _ => exact zr_tabIn hO dL_law_39 (off := 1526) (tgt := 1565) (by decide) (by decide) rfl (by decide) (tu_used H hn hQ hU hK hi)
    | 27, _ => exact zr_tabIn hO dL_law_39 (off := 1582) (tgt := 1621) (by decide) (by decide) rfl (by decide) (tu_holder H hn hQ hU hK hi)
    | 28, _ => exact zr_tabIn hO dL_law_39 (off := 1638) (tgt := 1677) (by decide) (by decide) rfl (by decide) (tu_blocked H hn hQ hU hK hi)
    | 29, _ => exact zr_tabIn hO dL_law_39 (off := 1694) (tgt := 1733) (by decide) (by decide) rfl (by decide) (tu_number H hn hQ hU hK hi)
    | 30, _ => exact zr_tabIn hO dL_law_39 (off := 1750) (tgt := 1789) (by decide) (by decide) rfl (by decide) (tu_awaiting H hn hQ hU hK hi)
    | 31, _ => exact zr_tabIn hO dL_law_39 (off := 1806) (tgt := 1845) (by decide) (by decide) rfl (by decide) (tu_stuck H hn hQ hU hK hi)
    | 32, _ => exact zr_tabIn hO dL_law_39 (off := 1819) (tgt := 1858) (by decide) (by decide) rfl (by decide) (tu_load H hn hQ hU hK hi)
    | 33, _ => exact zr_tabIn hO dL_law_39 (off := 1860) (tgt := 1899) (by decide) (by decide) rfl (by decide) (tu_doneIn H hn hQ hU hK hi)
    | 34, _ => exact zr_tabIn hO dL_law_39 (off := 1928) (tgt := 1967) (by decide) (by decide) rfl (by decide) (tu_doneWith H hn hQ hU hK hi)
    | 35, _ => exact zr_tabIn hO dL_law_39 (off := 2008) (tgt := 2047) (by decide) (by decide) rfl (by decide) (tu_idleIn H hn hQ hU hK hi)
    | 36, _ => exact zr_tabIn hO dL_law_39 (off := 2064) (tgt := 2103) (by decide) (by decide) rfl (by decide) (tu_stuckIn H hn hQ hU hK hi)
    | 37, _ => exact zr_tabIn hO dL_law_39 (off := 2120) (tgt := 2159) (by decide) (by decide) rfl (by decide) (tu_digest H hn hQ hU hK hi)
    | q + 38, h9 => exact absurd h9 (by omega)
