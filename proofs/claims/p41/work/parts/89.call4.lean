/-! The calls: settings, ranks, starts, steps -/
theorem is_cases (v lo hi : Int32) : (mF_is v lo hi = true ∧ ¬ v < lo ∧ ¬ hi < v ∧ lo.toInt ≤ v.toInt ∧ v.toInt ≤ hi.toInt) ∨ (mF_is v lo hi = false ∧ (v < lo ∨ (¬ v < lo ∧ hi < v))) := by
  by_cases c : v < lo
  · exact Or.inr ⟨is_n (Or.inl (by rw [i_lt] at c; exact c)), Or.inl c⟩
  · by_cases c2 : hi < v
    · exact Or.inr ⟨is_n (Or.inr (by rw [i_lt] at c2; exact c2)), Or.inr ⟨c, c2⟩⟩
    · have c3 := c
      have c4 := c2
      rw [i_lt] at c3 c4
      exact Or.inl ⟨is_y (by omega) (by omega), c, c2, by omega, by omega⟩
section CS
variable {n K : Nat} {A M : zSg}
theorem c_setWay (h : zQR n K A M) (a b c : Int32) : zAg LA K (cP_setWay A a b c) A (mP_setWay M a b c) := by
  have h0 := zQR_0 h 0
  have hn := zI_n h.1
  have bad : ∀ {R : zRs} {P}, R = .inr eIA → P = mF_ref (zup M 0 0 0) 1 → zAg LA K R A P := fun e1 e2 => ag_x h0 e1 e2 (by decide) (by decide)
  rcases is_cases a 0 2 with ⟨a1, a2, a3, a4, a5⟩ | ⟨a1, a2⟩
  · rcases is_cases b 1 10 with ⟨b1, b2, b3, b4, b5⟩ | ⟨b1, b2⟩
    · rcases is_cases c 0 50 with ⟨c1, c2, c3, c4, c5⟩ | ⟨c1, c2⟩
      · have i1 := zI_set (f := 0) (j := 2) h0.1 (by unfold zdm; omega) rfl (by omega) (by omega) (show zr1 a 0 2 from ⟨a4, a5⟩) rfl
        have i2 := zI_set (f := 0) (j := 3) i1 (by unfold zdm; omega) rfl (by omega) (by omega) (show zr1 b 1 10 from ⟨b4, b5⟩) rfl
        have i3 := zI_set (f := 0) (j := 4) i2 (by unfold zdm; omega) rfl (by omega) (by omega) (show zr1 c 0 50 from ⟨c4, c5⟩) rfl
        have t1 := zTr_set (a := 1) (b := 1) (f := 0) (j := 2) (v := a) (w := a) h0.2 (by omega) (by omega)
        have t2 := zTr_set (a := 1) (b := 2) (f := 0) (j := 3) (v := b) (w := b) t1 (by omega) (by omega)
        have t3 := zTr_set (a := 1) (b := 3) (f := 0) (j := 4) (v := c) (w := c) t2 (by omega) (by omega)
        refine ag_c ⟨i3, t3⟩ ?_ (v := A 1 1) (by unfold cP_setWay; rw [if_neg a2, if_neg a3, if_neg b2, if_neg b3, if_neg c2, if_neg c3]) (by unfold mP_setWay; rw [if_pos a1, if_pos b1, if_pos c1]) (ze_way (zI_E h0.1))
        exact (zup_b (by decide)).trans ((zup_b (by decide)).trans ((zup_b (by decide)).trans (zup_at M 0 0 0)))
      · refine bad ?_ (by unfold mP_setWay; rw [if_pos a1, if_pos b1, if_neg (ff c1)])
        unfold cP_setWay
        rw [if_neg a2, if_neg a3, if_neg b2, if_neg b3]
        rcases c2 with c2 | ⟨c2, c3⟩
        · rw [if_pos c2]
        · rw [if_neg c2, if_pos c3]
    · refine bad ?_ (by unfold mP_setWay; rw [if_pos a1, if_neg (ff b1)])
      unfold cP_setWay
      rw [if_neg a2, if_neg a3]
      rcases b2 with b2 | ⟨b2, b3⟩
      · rw [if_pos b2]
      · rw [if_neg b2, if_pos b3]
  · refine bad ?_ (by unfold mP_setWay; rw [if_neg (ff a1)])
    unfold cP_setWay
    rcases a2 with a2 | ⟨a2, a3⟩
    · rw [if_pos a2]
    · rw [if_neg a2, if_pos a3]
theorem c_setPeriod (h : zQR n K A M) (a : Int32) : zAg LA K (cP_setPeriod A a) A (mP_setPeriod M a) := by
  have h0 := zQR_0 h 0
  rcases is_cases a 1 50 with ⟨a1, a2, a3, a4, a5⟩ | ⟨a1, a2⟩
  · have i1 := zI_set (f := 0) (j := 5) h0.1 (by unfold zdm; omega) rfl (by omega) (by omega) (show zr1 a 1 50 from ⟨a4, a5⟩) rfl
    have t1 := zTr_set (a := 1) (b := 4) (f := 0) (j := 5) (v := a) (w := a) h0.2 (by omega) (by omega)
    exact ag_c ⟨i1, t1⟩ ((zup_b (by decide)).trans (zup_at M 0 0 0)) (v := A 1 4) (by unfold cP_setPeriod; rw [if_neg a2, if_neg a3]) (by unfold mP_setPeriod; rw [if_pos a1]) (ze_pe (zI_E h0.1))
  · refine ag_x h0 (E := eIA) (v := 1) ?_ (by unfold mP_setPeriod; rw [if_neg (ff a1)]) (by decide) (by decide)
    unfold cP_setPeriod
    rcases a2 with a2 | ⟨a2, a3⟩
    · rw [if_pos a2]
    · rw [if_neg a2, if_pos a3]
theorem c_setQuota (h : zQR n K A M) (g v : Int32) : zAg LXA K (cP_setQuota A g v) A (mP_setQuota M g v) := by
  have h0 := zQR_0 h 0
  rcases rng_eq g 4 (by decide) 3 (by decide) with ⟨q, hq, rfl, h3⟩ | ⟨h3, h4⟩
  · rcases is_cases v 0 50 with ⟨a1, a2, a3, a4, a5⟩ | ⟨a1, a2⟩
    · have i1 := zI_set (f := 1) (j := q) h0.1 (by unfold zdm; omega) rfl (by omega) (by omega) (show zr1 v 0 50 from ⟨a4, a5⟩) rfl
      have t1 := zTr_set (a := 2) (b := q) (f := 1) (j := q) (v := v) (w := v) h0.2 (by omega) (by omega)
      refine ag_c ⟨i1, t1⟩ ((zup_a (by decide)).trans (zup_at M 0 0 0)) (v := A 2 q) ?_ (by unfold mP_setQuota; rw [if_pos h3, if_pos a1, zix (by omega)]) (ze_quota (zI_E h0.1) hq)
      unfold cP_setQuota
      rw [if_neg (nI_pos (by omega)), if_pos (zlt_T (x := 4) (by decide) hq), if_neg a2, if_neg a3, zix (by omega)]
    · refine ag_x h0 (E := eIA) (v := 2) ?_ (by unfold mP_setQuota; rw [if_pos h3, if_neg (ff a1)]) (by decide) (by decide)
      unfold cP_setQuota
      rw [if_neg (nI_pos (by omega)), if_pos (zlt_T (x := 4) (by decide) hq)]
      rcases a2 with a2 | ⟨a2, a3⟩
      · rw [if_pos a2]
      · rw [if_neg a2, if_pos a3]
  · refine ag_x h0 (E := eIX) (v := 1) ?_ (by unfold mP_setQuota; rw [if_neg (ff h3)]) (by decide) (by decide)
    unfold cP_setQuota
    by_cases c : g < 0
    · rw [if_pos c]
    · rw [if_neg c, if_neg]
      rw [i_lt, show (0 : Int32).toInt = 0 from rfl] at c
      rw [i_lt, show (4 : Int32).toInt = 4 from rfl]
      omega
theorem c_setRank (h : zQR n K A M) (t r : Int32) : zAg LXA K (cP_setRank A t r) A (mP_setRank M t r) := by
  have h0 := zQR_0 h 0
  rcases task_eq h0.1 t with ⟨i, hi, rfl, h1, h2⟩ | ⟨h1, h2⟩
  · have hn := zI_n h.1
    rcases rng_eq r 8 (by decide) 7 (by decide) with ⟨q, hq, rfl, h3⟩ | ⟨h3, h4⟩
    · have i1 := zI_rank (v := nI q) h0.1 hi (by rw [nI_rng (by omega)]; omega)
      have t1 := zTr_set (a := ztk i) (b := 3) (f := 3) (j := i) (v := nI q) (w := nI q) h0.2 (by omega) (by unfold ztk; omega)
      refine ag_c ⟨i1, t1⟩ ((zup_a (by decide)).trans (zup_at M 0 0 0)) (v := A (ztk i) 3) ?_ (by unfold mP_setRank; rw [if_pos h1, if_pos h3, zix (by omega)]) (ze_rank (zI_E h0.1) (by omega))
      unfold cP_setRank
      rw [h2]
      dsimp only
      rw [if_neg (nI_pos (by omega)), if_pos (zlt_T (x := 8) (by decide) hq)]
    · refine ag_x h0 (E := eIA) (v := 2) ?_ (by unfold mP_setRank; rw [if_pos h1, if_neg (ff h3)]) (by decide) (by decide)
      unfold cP_setRank
      rw [h2]
      dsimp only
      by_cases c : r < 0
      · rw [if_pos c]
      · rw [if_neg c, if_neg]
        rw [i_lt, show (0 : Int32).toInt = 0 from rfl] at c
        rw [i_lt, show (8 : Int32).toInt = 8 from rfl]
        omega
  · exact ag_x h0 (E := eIX) (v := 1) (by unfold cP_setRank; rw [h2]) (by unfold mP_setRank; rw [if_neg (ff h1)]) (by decide) (by decide)
theorem c_start (h : zQR n K A M) (t : Int32) : zAg LXS K (cP_start A t) A (mP_start M t) := by
  have h0 := zQR_0 h 0
  rcases task_eq h0.1 t with ⟨i, hi, rfl, h1, h2⟩ | ⟨h1, h2⟩
  · have hn := zI_n h.1
    have hz : (zup M 0 0 0) 0 0 = 0 := zup_at M 0 0 0
    generalize hM0 : zup M 0 0 0 = M0 at h0 h1 hz
    have est := zI_st h0.1 (t := i) (by omega)
    have bad : ∀ {R : zRs} {P}, R = .inr eIS → P = mF_ref (zup M 0 0 0) 2 → zAg LXS K R A P := fun e1 e2 => ag_x (by rw [hM0]; exact h0) e1 e2 (by decide) (by decide)
    have hlen : zr1 (M0 6 i) 0 16 := zI_W h0.1 6 i
    have elen := ze_len (zI_E h0.1) (t := i) (by omega)
    by_cases c : M0 41 i = 0
    · by_cases c2 : M0 6 i = 0
      · refine bad ?_ (by unfold mP_start; rw [hM0, if_pos h1, zix (by omega), if_pos c, if_pos c2])
        unfold cP_start
        rw [h2]
        dsimp only
        rw [if_pos (by rw [est]; exact c), if_neg]
        unfold cF_endsRun
        rw [elen, c2, if_neg (by decide)]
        decide
      · have hpos : 0 < (M0 6 i).toInt := by
          rcases Int.lt_or_eq_of_le hlen.1 with g | g
          · exact g
          · exact absurd (Int32.toInt_inj.mp (g.symm.trans rfl)) c2
        have hl2 := hlen.2
        have esub : (M0 6 i - 1).toInt = (M0 6 i).toInt - 1 := fb_subI (y := 1) (by rw [show (1 : Int32).toInt = 1 from rfl]; omega) (by rw [show (1 : Int32).toInt = 1 from rfl]; omega)
        have eRun : cF_endsRun A i = true ↔ M0 (8 + i) (ix (M0 6 i - 1)) = 0 := by
          have z1 := ztoInt (x := M0 6 i - 1) (by omega)
          have ecode : cF_codeAt A i (M0 6 i - 1) = M0 (8 + i) (ix (M0 6 i - 1)) := by
            unfold cF_codeAt
            rw [if_neg (by rw [i_lt, show (0 : Int32).toInt = 0 from rfl]; omega), if_pos (by rw [i_lt, show (16 : Int32).toInt = 16 from rfl]; omega), ze_code hn (zI_E h0.1) hi (by omega)]
          unfold cF_endsRun
          rw [elen, if_pos (by rw [i_lt]; exact hpos), ecode]
          by_cases g : M0 (8 + i) (ix (M0 6 i - 1)) = 0
          · rw [if_pos g]; exact ⟨fun _ => g, fun _ => rfl⟩
          · rw [if_neg g]; exact ⟨fun e => absurd e (by decide), fun e => absurd e g⟩
        by_cases c3 : M0 (8 + i) (ix (M0 6 i - 1)) = 0
        · have hTk := (zI_T h0.1 hi)
          obtain ⟨n1, n2, n3, -⟩ := hTk.2.2.2.2.2.2.2 c
          have hx := zI_ix h0.1
          have el : cF_least A i = mF_least M0 (nI i) := least_eq hn hx (zI_E h0.1) (fun t g1 g2 => zI_H h0.1 g1 g2) (by omega)
          have hτ : 0 ≤ (if 0 < mF_least M0 (nI i) then mF_least M0 (nI i) else 0).toInt ∧ (if 0 < mF_least M0 (nI i) then mF_least M0 (nI i) else 0).toInt ≤ 840 * K := by
            rcases least_rg hx (nI i) with e | ⟨u, hu, e⟩
            · rw [e]
              exact ⟨by decide, by rw [if_neg (by decide), show (0 : Int32).toInt = 0 from rfl]; omega⟩
            · have := zI_M h0.1 hu
              rw [e]
              split
              · exact this
              · exact ⟨by decide, by rw [show (0 : Int32).toInt = 0 from rfl]; omega⟩
          have eτ : (if cF_least A i = -1 then 0 else cF_least A i) = (if 0 < mF_least M0 (nI i) then mF_least M0 (nI i) else 0) := by
            rw [el]
            rcases least_rg hx (nI i) with e | ⟨u, hu, e⟩
            · rw [e]; decide
            · have hm := zI_M h0.1 hu
              rw [e, if_neg (fun e9 => by rw [e9] at hm; exact absurd hm.1 (by decide))]
              by_cases g : 0 < M0 47 u
              · rw [if_pos g]
              · rw [if_neg g]
                rw [i_lt, show (0 : Int32).toInt = 0 from rfl] at g
                exact Int32.toInt_inj.mp (by rw [show (0 : Int32).toInt = 0 from rfl]; omega)
          have hi6 : (zI_T h0.1 hi).1 = (zI_T h0.1 hi).1 := rfl
          have e6 : A (ztk i) 6 = M0 42 i := hTk.1 (by rw [c]; decide)
          have e10 := ze_lev (zI_E h0.1) (t := i) (by omega)
          have g := zI_rdy (s := M0 42 i) (l := M0 46 i) (τ := if 0 < mF_least M0 (nI i) then mF_least M0 (nI i) else 0) (x := M0 0 9) (y := M0 0 9 + 1) h0.1 hi (by rw [c]; decide) (by rw [n1, show (0 : Int32).toInt = 0 from rfl]; omega) c3 (by rw [n2, show (0 : Int32).toInt = 0 from rfl]; have := h0.1.2.2.2.2.1.2 i hi; omega) (zI_W h0.1 46 i) hτ
          have eC : cF_start A i = zup (zup (zup (zup (zup (zup A (ztk i) 6 (M0 42 i)) (ztk i) 10 (M0 46 i)) (ztk i) 11 (if 0 < mF_least M0 (nI i) then mF_least M0 (nI i) else 0)) (ztk i) 5 1) (ztk i) 9 (M0 0 9)) 0 11 (M0 0 9 + 1) := by
            rw [← e6, zup_self, ← e10, zup_self, cF_start, eτ, cF_ready]
            have k1 : ∀ x y : Int32, zup (zup A (ztk i) 11 x) (ztk i) 5 y 0 11 = M0 0 9 := fun x y => (zup_a (by unfold ztk; omega)).trans ((zup_a (by unfold ztk; omega)).trans (ze_ns (zI_E h0.1)))
            rw [k1, zup_a (x := 0) (by unfold ztk; omega), k1]
          have eM : mP_started M0 (nI i) = zup (zup (zup (zup (zup (zup M0 42 i (M0 42 i)) 46 i (M0 46 i)) 47 i (if 0 < mF_least M0 (nI i) then mF_least M0 (nI i) else 0)) 41 i 1) 45 i (M0 0 9)) 0 9 (M0 0 9 + 1) := by
            rw [zup_self, zup_self, mP_started, mF_ready, zix (by omega)]
            rfl
          have hk : zKm M0 (mP_started M0 (nI i)) := by
            unfold mP_started
            exact km_ready (zKm_up (zKm_r M0) (by omega)) _
          have hc : zKc A (cF_start A i) := by
            unfold cF_start
            exact kc_ready (zKc_ut (zKc_r A)) i
          rw [← eC, ← eM] at g
          refine ag_c ⟨g, zTr_k h0.2 hc hk⟩ ((hk.1 0 (by decide)).trans hz) (v := (cF_start A i) (ztk i) 9) ?_ (by unfold mP_start; rw [hM0, if_pos h1, zix (by omega), if_pos c, if_neg c2, if_pos c3]) (ze_stand (zI_E g) hi)
          unfold cP_start
          rw [h2]
          dsimp only
          rw [if_pos (by rw [est]; exact c), if_pos (eRun.mpr c3)]
        · refine bad ?_ (by unfold mP_start; rw [hM0, if_pos h1, zix (by omega), if_pos c, if_neg c2, if_neg c3])
          unfold cP_start
          rw [h2]
          dsimp only
          rw [if_pos (by rw [est]; exact c), if_neg (fun e => c3 (eRun.mp e))]
    · refine bad ?_ (by unfold mP_start; rw [hM0, if_pos h1, zix (by omega), if_neg c])
      unfold cP_start
      rw [h2]
      dsimp only
      rw [if_neg (by rw [est]; exact c)]
  · exact ag_x h0 (E := eIX) (v := 1) (by unfold cP_start; rw [h2]) (by unfold mP_start; rw [if_neg (ff h1)]) (by decide) (by decide)
end CS
