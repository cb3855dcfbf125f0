/-! The calls: what changes -/
theorem zTr_le {K K' c0 : Nat} {ds di da : Int32} {A M : zSg} (h : zTr K ds di da c0 A M) (hK : K ≤ K') : zTr K' ds di da c0 A M := ⟨h.1, h.2.1, h.2.2.1, by have := h.2.2.2; omega⟩
theorem zQR_le {n K K' : Nat} {A M : zSg} (h : zQR n K A M) (hK : K ≤ K') : zQR n K' A M := ⟨zI_le h.1 hK, zTr_le h.2 hK⟩
theorem zAg_le {K K' : Nat} {L : List String} {R : zRs} {A : zSg} {P : zSg × Int32} (h : zAg L K R A P) (hK : K ≤ K') : zAg L K' R A P := by
  unfold zAg at h ⊢
  cases R with
  | inl q => obtain ⟨h1, h2, n, h3⟩ := h; exact ⟨h1, h2, n, zQR_le h3 hK⟩
  | inr E => obtain ⟨h1, h2, n, h3⟩ := h; exact ⟨h1, h2, n, zQR_le h3 hK⟩
theorem zTr_k {K c0 : Nat} {ds di da : Int32} {A M A' M' : zSg} (h : zTr K ds di da c0 A M) (c : zKc A A') (m : zKm M M') : zTr K ds di da c0 A' M' := by
  obtain ⟨h1, h2, h3⟩ := h
  refine ⟨?_, fun p b hp g1 g2 g3 => ?_, ?_⟩
  · rw [c 3 0 (by decide), c 3 1 (by decide), c 3 2 (by decide), m.1 11 (by decide), m.1 12 (by decide), m.1 13 (by decide), m.1 14 (by decide)]; exact h1
  · rw [m.1 1 (by decide)] at g3 ⊢
    rw [m.2 _ _ (by omega) (by omega), c (5 + p) _ (by omega)]; exact h2 p b hp g1 g2 g3
  · rw [m.1 14 (by decide)]; exact h3
theorem c_ran {n K : Nat} {A M : zSg} (h : zQR n K A M) (hK : K ≤ 190000) (p b : Int32) : zAg LXA K (cP_ran A p b) A (mP_ran M p b) := by
  have h0 := zQR_0 h 0
  rcases proc_eq h0.1 p with ⟨i, hi, hx, rfl, h1, h2⟩ | ⟨h1, h2⟩
  · by_cases c : 1 ≤ b.toInt ∧ b.toInt ≤ 30
    · have hb : mF_is b 1 30 = true := is_y (by rw [show (1 : Int32).toInt = 1 from rfl]; omega) (by rw [show (30 : Int32).toInt = 30 from rfl]; omega)
      refine ag_g h0 (v := cF_ranIn A (nI i) (A 0 9 - b)) ?_ (by unfold mP_ran; rw [if_pos h1, if_pos hb]) ?_
      · unfold cP_ran
        rw [h2]
        dsimp only
        rw [if_neg (by rw [i_lt, show (1 : Int32).toInt = 1 from rfl]; omega), if_neg (by rw [i_lt, show (30 : Int32).toInt = 30 from rfl]; omega)]
      · have hclk := zI_K h0.1
        have e9 : A 0 9 = (zup M 0 0 0) 0 1 := ze_clk (zI_E h0.1)
        generalize zup M 0 0 0 = M0 at h0 hclk e9 ⊢
        have es : (M0 0 1 - b).toInt = (M0 0 1).toInt - b.toInt := fb_subI (by omega) (by omega)
        unfold cF_ranIn mF_ran
        rw [e9, if_neg (nI_pos (by omega)), if_pos (zlt_T (x := 3) (by decide) hi)]
        by_cases c2 : M0 0 1 < b
        · rw [if_pos c2, if_pos]
          rw [i_lt] at c2 ⊢
          rw [es, show (0 : Int32).toInt = 0 from rfl]
          omega
        · rw [i_lt] at c2
          rw [if_neg (by rw [i_lt, es, show (0 : Int32).toInt = 0 from rfl]; omega), if_neg (by rw [i_lt]; exact c2), zix (by omega), mod30 (by omega)]
          have z1 := ztoInt (x := b) (by omega)
          have z2 := ztoInt (x := M0 0 1) (by omega)
          have z3 := ztoInt (x := M0 0 1 - b) (by omega)
          have eb : (b - 1).toInt = b.toInt - 1 := fb_subI (y := 1) (by rw [show (1 : Int32).toInt = 1 from rfl]; omega) (by rw [show (1 : Int32).toInt = 1 from rfl]; omega)
          have z4 := ztoInt (x := b - 1) (by omega)
          have := h0.2.2.1 i (ix b) hi (by omega) (by omega) (by omega)
          rw [show ix (M0 0 1 - b) = ix (M0 0 1) - ix b by omega, show ix (b - 1) = ix b - 1 by omega, this]
    · have hb : mF_is b 1 30 = false := is_n (by rw [show (1 : Int32).toInt = 1 from rfl, show (30 : Int32).toInt = 30 from rfl]; omega)
      refine ag_x h0 (E := eIA) (v := 2) ?_ (by unfold mP_ran; rw [if_pos h1, if_neg (ff hb)]) (by decide) (by decide)
      unfold cP_ran
      rw [h2]
      dsimp only
      by_cases c1 : b < 1
      · rw [if_pos c1]
      · rw [if_neg c1, if_pos]
        rw [i_lt, show (1 : Int32).toInt = 1 from rfl] at c1
        rw [i_lt, show (30 : Int32).toInt = 30 from rfl]
        omega
  · exact ag_x h0 (E := eIX) (v := 1) (by unfold cP_ran; rw [h2]) (by unfold mP_ran; rw [if_neg (ff h1)]) (by decide) (by decide)
theorem cF_ticks_s (A : zSg) (j : Nat) : cF_ticks A (j + 1) = cF_tick (cF_ticks A j) := by
  unfold cF_ticks
  rw [List.range_succ, List.foldl_append]
  rfl
theorem cF_ticks_h (A : zSg) : ∀ j, cF_ticks A (j + 1) = cF_ticks (cF_tick A) j := by
  intro j
  induction j with
  | zero => rfl
  | succ j ih => rw [cF_ticks_s A (j + 1), ih, cF_ticks_s (cF_tick A) j]
theorem ticks_eq {n f c0 : Nat} {ds di da : Int32} (hf : 16 < f) : ∀ (j K : Nat) (A M : zSg), zI n K A M → zTr K ds di da c0 A M → K + 4 * j ≤ 190000 → ∃ M', mF_ticks f j M = some M' ∧ zI n (K + 4 * j) (cF_ticks A j) M' ∧ zTr (K + 4 * j) ds di da c0 (cF_ticks A j) M' ∧ M' 0 0 = M 0 0 := by
  intro j
  induction j with
  | zero => intro K A M h tr _; exact ⟨M, rfl, h, tr, rfl⟩
  | succ j ih =>
    intro K A M h tr hK
    obtain ⟨M1, e1, h1, t1, _, _, z1⟩ := zI_tick h (by omega) tr hf
    obtain ⟨M2, e2, h2, t2, z2⟩ := ih (K + 4) (cF_tick A) M1 h1 t1 (by omega)
    refine ⟨M2, ?_, ?_, ?_, z2.trans z1⟩
    · rw [mF_ticks, e1]
      exact e2
    · rw [cF_ticks_h, show K + 4 * (j + 1) = K + 4 + 4 * j by omega]; exact h2
    · rw [cF_ticks_h, show K + 4 * (j + 1) = K + 4 + 4 * j by omega]; exact t2
theorem c_tick {n K f : Nat} {A M : zSg} (h : zQR n K A M) (hK : K + 160 ≤ 190000) (hf : 16 < f) (t : Int32) : ∃ P, mP_tick f M t = some P ∧ zAg LA (K + 160) (cP_tick A t) A P := by
  have h0 := zQR_0 h 0
  by_cases c : 1 ≤ t.toInt ∧ t.toInt ≤ 40
  · have hb : mF_is t 1 40 = true := is_y (by rw [show (1 : Int32).toInt = 1 from rfl]; omega) (by rw [show (40 : Int32).toInt = 40 from rfl]; omega)
    have z := ztoInt (x := t) (by omega)
    obtain ⟨M', e1, h1, t1, z1⟩ := ticks_eq hf (ix t) K A _ h0.1 h0.2 (by omega)
    refine ⟨(M', M' 0 1), by unfold mP_tick; rw [if_pos hb, e1]; rfl, ?_⟩
    refine ag_c (zQR_le ⟨h1, t1⟩ (by omega)) (z1.trans (zup_at M 0 0 0)) (v := cF_ticks A (ix t) 0 9) ?_ rfl (ze_clk (zI_E h1))
    unfold cP_tick
    rw [if_neg (by rw [i_lt, show (1 : Int32).toInt = 1 from rfl]; omega), if_neg (by rw [i_lt, show (40 : Int32).toInt = 40 from rfl]; omega)]
  · have hb : mF_is t 1 40 = false := is_n (by rw [show (1 : Int32).toInt = 1 from rfl, show (40 : Int32).toInt = 40 from rfl]; omega)
    refine ⟨_, by unfold mP_tick; rw [if_neg (ff hb)], ag_x (zQR_le h0 (by omega)) (E := eIA) (v := 1) ?_ rfl (by decide) (by decide)⟩
    unfold cP_tick
    by_cases c1 : t < 1
    · rw [if_pos c1]
    · rw [if_neg c1, if_pos]
      rw [i_lt, show (1 : Int32).toInt = 1 from rfl] at c1
      rw [i_lt, show (40 : Int32).toInt = 40 from rfl]
      omega
theorem c_signal {n K : Nat} {A M : zSg} (h : zQR n K A M) (t : Int32) : zAg LX K (cP_signal A t) A (mP_signal M t) := by
  have h0 := zQR_0 h 0
  rcases lock_eq t with ⟨q, hq, rfl, h1, h2⟩ | ⟨h1, h2⟩
  · have hS := zI_signal h0.1 hq
    have hk := km_signal (zKm_r (zup M 0 0 0)) (nI q)
    refine ag_c ⟨hS, zTr_k h0.2 (kc_signal (zKc_r A) (nI q)) hk⟩ ((hk.1 0 (by decide)).trans (zup_at M 0 0 0)) (v := cF_number (cF_signal A (nI q)) (nI q)) (by unfold cP_signal; rw [h2]) (by unfold mP_signal; rw [if_pos h1]) ?_
    rw [number_nI _ hq, zix (by omega), ze_sig (zI_E hS) hq]
  · exact ag_x h0 (E := eIX) (v := 1) (by unfold cP_signal; rw [h2]) (by unfold mP_signal; rw [if_neg (ff h1)]) (by decide) (by decide)
theorem c_end {n K : Nat} {A M : zSg} (h : zQR n K A M) (t : Int32) : zAg LXS K (cP_end A t) A (mP_end M t) := by
  have h0 := zQR_0 h 0
  rcases task_eq h0.1 t with ⟨i, hi, rfl, h1, h2⟩ | ⟨h1, h2⟩
  · have hn := zI_n h.1
    have est := zI_st h0.1 (t := i) (by omega)
    by_cases c : (zup M 0 0 0) 41 i = 6
    · exact ag_x h0 (E := eIS) (v := 2) (by unfold cP_end; rw [h2]; dsimp only; rw [est, if_pos c]) (by unfold mP_end; rw [if_pos h1, zix (by omega), if_pos c]) (by decide) (by decide)
    · have hF := zI_finish h0.1 hi (zI_E h0.1) (zk_r (zI_W h0.1)) (fun _ _ _ => rfl) (fun _ _ _ => rfl)
      have hk := km_finish (zKm_r (zup M 0 0 0)) (t := nI i) (vp_in_nI (by omega) (by decide))
      refine ag_c ⟨hF, zTr_k h0.2 (kc_finish (zKc_r A) i) hk⟩ ((hk.1 0 (by decide)).trans (zup_at M 0 0 0)) (v := A (ztk i) 5) (by unfold cP_end; rw [h2]; dsimp only; rw [if_neg (by rw [est]; exact c)]) (by unfold mP_end; rw [if_pos h1, zix (by omega), if_neg c]) est
  · exact ag_x h0 (E := eIX) (v := 1) (by unfold cP_end; rw [h2]) (by unfold mP_end; rw [if_neg (ff h1)]) (by decide) (by decide)
