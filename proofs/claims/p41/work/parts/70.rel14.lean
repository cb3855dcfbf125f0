/-! The relation: processor by processor -/
theorem mod30 {t : Int32} (h0 : 0 ≤ t.toInt) : ix (t - t / 30 * 30) = ix t % 30 := by
  have h1 := zrng t
  have e : (t % 30).toInt = t.toInt.tmod 30 := by rw [Int32.toInt_mod]; rfl
  have hd : (t / 30).toInt = t.toInt / 30 := by
    rw [Int32.toInt_div, show (30 : Int32).toInt = 30 from rfl, Int.tdiv_eq_ediv_of_nonneg h0]
    exact Int.bmod_eq_of_le (by omega) (by omega)
  have hm : (t / 30 * 30).toInt = t.toInt / 30 * 30 := by
    rw [Int32.toInt_mul, hd, show (30 : Int32).toInt = 30 from rfl]
    exact Int.bmod_eq_of_le (by omega) (by omega)
  have hs : (t - t / 30 * 30).toInt = t.toInt - t.toInt / 30 * 30 := by
    rw [fb_subI (by rw [hm]; omega) (by rw [hm]; omega), hm]
  have h2 := ztoInt h0
  have h3 := ztoInt (x := t - t / 30 * 30) (by rw [hs]; omega)
  rw [hs] at h3
  omega
theorem kc_runTick {A C : zSg} {n K u : Nat} {M : zSg} (h : zI n K C M) (hu : u < n) (k : zKc A C) : zKc A (cF_runTick C u) := by
  have hn := zI_n h
  obtain ⟨g, hg, eg⟩ : ∃ g, g < 4 ∧ M 4 u = nI g := vp_in_of (zin_r (a := 0) (b := 3) (n := 4) (zI_W h 4 u) (by decide) (by decide)) (by decide)
  obtain ⟨r, hr, er⟩ : ∃ r, r < 8 ∧ M 3 u = nI r := vp_in_of (zin_r (a := 0) (b := 7) (n := 8) (zI_W h 3 u) (by decide) (by decide)) (by decide)
  rw [cF_runTick_eq ((ze_grp (zI_E h) (by omega)).trans eg) hg (by rw [ze_rank (zI_E h) (by omega), er]; exact (zshare r hr).2.2)]
  have hX : zKc A (qXC C u g (if C 1 1 = 2 then C (ztk u) 11 + 840 / (8 - C (ztk u) 3) else C (ztk u) 11)) := by
    unfold qXC
    exact zKc_ut (zKc_ut (zKc_ut (zKc_up (zKc_up (zKc_up k (by unfold ztk; omega)) (by unfold ztk; omega)) (by decide))))
  generalize qXC C u g (if C 1 1 = 2 then C (ztk u) 11 + 840 / (8 - C (ztk u) 3) else C (ztk u) 11) = X at hX ⊢
  by_cases c1 : X (ztk u) 7 < cF_numAt X u (X (ztk u) 6)
  · rw [qTl_1 c1]; exact hX
  · by_cases c2 : X (ztk u) 6 + 1 < X (ztk u + 1) 1
    · rw [qTl_2 c1 c2]; exact zKc_ut (zKc_ut hX)
    · rw [qTl_3 c1 c2]; exact zKc_ut (zKc_ut (zKc_ut (zKc_ut hX)))
theorem km_runOne {A M : zSg} {u p : Nat} {n : Int32} (hW : zmW M) (hu : u < 16) (hp : p < 3) (k : zKm A M) : zKm A (mF_runOne M (nI u) (nI p) n) := by
  obtain ⟨g, hg, eg⟩ : ∃ g, g < 4 ∧ M 4 u = nI g := vp_in_of (zin_r (a := 0) (b := 3) (n := 4) (hW 4 u) (by decide) (by decide)) (by decide)
  rw [mF_runOne_eq hu hp eg hg]
  have hX : zKm A (qXM M u p g) := by
    unfold qXM
    exact zKm_up (zKm_up (zKm_up (zKm_up (zKm_up (zKm_up k (by omega)) (by omega)) (by omega)) (by omega)) (by omega)) (by omega)
  generalize qXM M u p g = X at hX ⊢
  by_cases c1 : X 44 u < n
  · rw [rTl_1 hu c1]; exact hX
  · by_cases c2 : X 42 u + 1 < X 6 u
    · rw [rTl_2 hu c1 c2]; exact zKm_up (zKm_up hX (by omega)) (by omega)
    · rw [rTl_3 hu c1 c2]
      have h9 : zKm A (zup (zup (zup (zup X 44 u 0) 42 u (X 42 u + 1)) 43 u (X 43 u + 1)) 42 u 0) := zKm_up (zKm_up (zKm_up (zKm_up hX (by omega)) (by omega)) (by omega)) (by omega)
      split
      · exact km_finish h9 (vp_in_nI hu (by decide))
      · exact h9
/-- the trace between two processors of a tick: m are through -/
def zLp (m cm K : Nat) (ds di da : Int32) (C0 M0 C M : zSg) : Prop :=
  (C 3 0 = M 0 11 + ds ∧ C 3 1 = M 0 12 + di ∧ C 3 2 = M 0 14 + da ∧ M 0 14 = M 0 12 + M 0 13) ∧ (∀ q j, q < 3 → j ≠ cm → C (5 + q) j = C0 (5 + q) j) ∧ (∀ q, q < m → q < 3 → C (5 + q) cm = M 71 q) ∧
  (∀ q, m ≤ q → q < 3 → M 71 q = -1) ∧ (∀ f j, 72 ≤ f → f < 101 → M f j = M0 f j) ∧ (0 ≤ (M 0 14).toInt ∧ (M 0 14).toInt ≤ K)
theorem zLp_k {m cm K : Nat} {ds di da : Int32} {C0 M0 C M C' M' : zSg} (h : zLp m cm K ds di da C0 M0 C M) (c : zKc C C') (k : zKm M M') : zLp m cm K ds di da C0 M0 C' M' := by
  obtain ⟨⟨a1, a2, a3, a4⟩, b, d, e, f, g⟩ := h
  have k11 := k.1 11 (by decide)
  have k12 := k.1 12 (by decide)
  have k13 := k.1 13 (by decide)
  have k14 := k.1 14 (by decide)
  refine ⟨⟨by rw [c 3 0 (by decide), k11]; exact a1, by rw [c 3 1 (by decide), k12]; exact a2, by rw [c 3 2 (by decide), k14]; exact a3, by rw [k12, k13, k14]; exact a4⟩, fun q j hq hj => by rw [c (5 + q) j (by omega)]; exact b q j hq hj, fun q hq h3 => by rw [c (5 + q) cm (by omega), k.2 71 q (by decide) (by decide)]; exact d q hq h3, fun q hq h3 => by rw [k.2 71 q (by decide) (by decide)]; exact e q hq h3, fun x j h1 h2 => by rw [k.2 x j (by omega) h2]; exact f x j h1 h2, by rw [k14]; exact g⟩
theorem zinc_d {x y d : Int32} (h : x = y + d) : x + 1 = (y + 1) + d := by
  rw [h, Int32.add_assoc, Int32.add_assoc, Int32.add_comm d 1]
theorem zinc_14 {x : Int32} {K : Nat} (hK : K ≤ 1000000) (h : 0 ≤ x.toInt ∧ x.toInt ≤ K) : 0 ≤ (x + 1).toInt ∧ (x + 1).toInt ≤ ((K + 1 : Nat) : Int) := by
  have : (x + 1).toInt = x.toInt + 1 := fb_addI (y := 1) (by rw [show (1 : Int32).toInt = 1 from rfl]; omega) (by rw [show (1 : Int32).toInt = 1 from rfl]; omega)
  omega
theorem cF_note_eq {C : zSg} {k : Nat} {t v : Int32} (hk : k < 3) (ht : 0 ≤ t.toInt) : cF_note C (nI k) t v = zup C (5 + k) (ix t % 30) v := by
  unfold cF_note
  rw [if_neg (nI_pos (by omega)), if_pos (zlt_T (x := 3) (by decide) hk), if_neg (by rw [Int32.lt_iff_toInt_lt, show (0 : Int32).toInt = 0 from rfl]; omega), zix (by omega), mod30 ht]
/-- an idle processor -/
theorem zLp_idle {m K : Nat} {ds di da t : Int32} {C0 M0 C M : zSg} (hm : m < 3) (hK : K ≤ 1000000) (ht : 0 ≤ t.toInt) (h : zLp m (ix t % 30) K ds di da C0 M0 C M) (x : Int32) : zLp (m + 1) (ix t % 30) (K + 1) ds di da C0 M0 (cF_offer (cF_note C (nI m) t (-1)) false) (mT_aft false m x M) := by
  obtain ⟨⟨a1, a2, a3, a4⟩, b, d, e, f, g⟩ := h
  have h71 := e m (Nat.le_refl _) hm
  have eM : mT_aft false m x M = zup (zup (zup M 0 12 (M 0 12 + 1)) 0 13 (M 0 13)) 0 14 (M 0 14 + 1) := by
    unfold mT_aft
    rw [if_neg (by decide)]
    show zup (zup (zup M 0 12 (M 0 12 + (if M 71 m = -1 then 1 else 0))) 0 13 (M 0 13 + (if M 71 m = -1 then 0 else 1))) 0 14 (M 0 14 + 1) = _
    rw [h71, if_pos rfl, if_pos rfl, Int32.add_zero]
  have eC : cF_offer (cF_note C (nI m) t (-1)) false = zup (zup (zup C (5 + m) (ix t % 30) (-1)) 3 2 (C 3 2 + 1)) 3 1 (C 3 1 + 1) := by
    rw [cF_note_eq hm ht]
    unfold cF_offer
    rw [if_neg (by decide)]
    try dsimp only
    rw [zup_b (A := zup C (5 + m) (ix t % 30) (-1)) (j := 1) (k := 2) (by decide), zup_a (x := 3) (a := 5 + m) (by omega), zup_a (x := 3) (a := 5 + m) (by omega)]
  rw [eM, eC]
  have c0 : ∀ q j, zup (zup (zup C (5 + m) (ix t % 30) (-1)) 3 2 (C 3 2 + 1)) 3 1 (C 3 1 + 1) (5 + q) j = zup C (5 + m) (ix t % 30) (-1) (5 + q) j := fun q j => by rw [zup_a (by omega), zup_a (by omega)]
  refine ⟨⟨?_, ?_, ?_, ?_⟩, fun q j hq hj => ?_, fun q hq h3 => ?_, fun q hq h3 => ?_, fun x j h1 h2 => ?_, ?_⟩
  · rw [zup_b (by decide), zup_b (by decide), zup_a (by omega)]
    exact a1
  · rw [zup_at]
    exact zinc_d a2
  · rw [zup_b (by decide), zup_at]
    exact zinc_d a3
  · show M 0 14 + 1 = (M 0 12 + 1) + M 0 13
    rw [a4, Int32.add_assoc, Int32.add_assoc, Int32.add_comm (M 0 13) 1]
  · rw [c0, zup_b hj]
    exact b q j hq hj
  · rw [c0]
    show zup C (5 + m) (ix t % 30) (-1) (5 + q) (ix t % 30) = M 71 q
    by_cases c : q = m
    · rw [c, zup_at, h71]
    · rw [zup_a (by omega)]
      exact d q (by omega) h3
  · exact e q (by omega) h3
  · rw [zup_a (by omega), zup_a (by omega), zup_a (by omega)]
    exact f x j h1 h2
  · exact zinc_14 hK g
/-- a processor that isn't there -/
theorem zLp_none {m K : Nat} {ds di da t : Int32} {C0 M0 C M : zSg} (hm : m < 3) (ht : 0 ≤ t.toInt) (h : zLp m (ix t % 30) K ds di da C0 M0 C M) : zLp (m + 1) (ix t % 30) K ds di da C0 M0 (cF_note C (nI m) t (-1)) M := by
  obtain ⟨⟨a1, a2, a3, a4⟩, b, d, e, f, g⟩ := h
  have h71 := e m (Nat.le_refl _) hm
  rw [cF_note_eq hm ht]
  refine ⟨⟨by rw [zup_a (by omega)]; exact a1, by rw [zup_a (by omega)]; exact a2, by rw [zup_a (by omega)]; exact a3, a4⟩, fun q j hq hj => by rw [zup_b hj]; exact b q j hq hj, fun q hq h3 => ?_, fun q hq h3 => e q (by omega) h3, f, g⟩
  by_cases c : q = m
  · rw [c, zup_at, h71]
  · rw [zup_a (by omega)]
    exact d q (by omega) h3
/-- a tick that is run: the class notes it ahead, the reference behind -/
theorem zLp_run {m K : Nat} {ds di da t x : Int32} {C0 M0 C C' M M' : zSg} (hm : m < 3) (hK : K ≤ 1000000) (ht : 0 ≤ t.toInt) (hx : ¬ x = -1) (h : zLp m (ix t % 30) K ds di da C0 M0 C M) (hc : zKc (cF_offer (cF_note C (nI m) t x) true) C') (hk : zKm M M') : zLp (m + 1) (ix t % 30) (K + 1) ds di da C0 M0 C' (mT_aft true m x M') := by
  have h2 := zLp_k h (zKc_r C) hk
  obtain ⟨⟨a1, a2, a3, a4⟩, b, d, e, f, g⟩ := h2
  have eM : mT_aft true m x M' = zup (zup (zup (zup M' 71 m x) 0 12 (M' 0 12)) 0 13 (M' 0 13 + 1)) 0 14 (M' 0 14 + 1) := by
    unfold mT_aft
    rw [if_pos rfl]
    show zup (zup (zup (zup M' 71 m x) 0 12 (M' 0 12 + (if (if m = m then x else M' 71 m) = -1 then 1 else 0))) 0 13 (M' 0 13 + (if (if m = m then x else M' 71 m) = -1 then 0 else 1))) 0 14 (M' 0 14 + 1) = _
    rw [if_pos (c := m = m) rfl, if_neg hx, if_neg hx, Int32.add_zero]
  have eC : cF_offer (cF_note C (nI m) t x) true = zup (zup C (5 + m) (ix t % 30) x) 3 2 (C 3 2 + 1) := by
    rw [cF_note_eq hm ht]
    unfold cF_offer
    rw [if_pos rfl, zup_a (x := 3) (a := 5 + m) (by omega)]
  rw [eC] at hc
  rw [eM]
  have c0 : ∀ q j, C' (5 + q) j = if q < 3 then zup C (5 + m) (ix t % 30) x (5 + q) j else C' (5 + q) j := fun q j => by
    by_cases hq : q < 3
    · rw [if_pos hq, hc (5 + q) j (by omega), zup_a (by omega)]
    · rw [if_neg hq]
  refine ⟨⟨?_, ?_, ?_, ?_⟩, fun q j hq hj => ?_, fun q hq h3 => ?_, fun q hq h3 => ?_, fun y j h1 h2 => ?_, ?_⟩
  · rw [hc 3 0 (by decide), zup_b (by decide), zup_a (by omega)]
    exact a1
  · rw [hc 3 1 (by decide), zup_b (by decide), zup_a (by omega)]
    exact a2
  · rw [hc 3 2 (by decide), zup_at]
    exact zinc_d a3
  · show M' 0 14 + 1 = M' 0 12 + (M' 0 13 + 1)
    rw [a4, Int32.add_assoc]
  · rw [c0, if_pos hq, zup_b hj]
    exact b q j hq hj
  · rw [c0, if_pos h3]
    show _ = (if q = m then x else M' 71 q)
    by_cases c : q = m
    · rw [c, zup_at, if_pos rfl]
    · rw [if_neg c, zup_a (by omega)]
      exact d q (by omega) h3
  · show (if q = m then x else M' 71 q) = -1
    rw [if_neg (by omega)]
    exact e q (by omega) h3
  · rw [zup_a (by omega), zup_a (by omega), zup_a (by omega), zup_a (by omega)]
    exact f y j h1 h2
  · exact zinc_14 hK g
theorem zQm_aft {M : zSg} (b : Bool) {m : Nat} (x : Int32) : zMq M (mT_aft b m x M) := by
  unfold mT_aft
  dsimp only
  refine zMq_up (zMq_up (zMq_up ?_ _ (by unfold zQm; omega)) _ (by unfold zQm; omega)) _ (by unfold zQm; omega)
  cases b
  · exact zMq_r M
  · rw [if_pos rfl]
    exact zMq_up (zMq_r M) _ (by unfold zQm; show _ ∨ (71 ≤ 71 ∧ 71 < 101); omega)
theorem zCq_note {C : zSg} {m : Nat} {t v : Int32} (hm : m < 3) (ht : 0 ≤ t.toInt) : zCq C (cF_note C (nI m) t v) := by
  rw [cF_note_eq hm ht]
  exact zCq_up (zCq_r C) _ (by unfold zQs; omega)
theorem zCq_offer {C C' : zSg} (h : zCq C C') (b : Bool) : zCq C (cF_offer C' b) := by
  unfold cF_offer
  dsimp only
  split
  · exact zCq_up h _ (by unfold zQs; omega)
  · exact zCq_up (zCq_up h _ (by unfold zQs; omega)) _ (by unfold zQs; omega)
theorem zI_aft {n K m : Nat} {C M : zSg} (h : zI n K C M) (b : Bool) (x : Int32) : zI n K C (mT_aft b m x M) := zI_m h (zk_aft (zk_r (zI_W h)) b m x) (zQm_aft b x)
/-- one processor -/
theorem zI_proc {n K f m : Nat} {ds di da : Int32} {C0 M0 C M : zSg} (h : zI n K C M) (hK : K ≤ 190000) (hm : m < 3) (hmP : m < ix (M 0 6)) (hf : 16 < f) (hl : zLp m (ix (M 0 1) % 30) K ds di da C0 M0 C M) :
    ∃ r, mT_go f M m = some r ∧ zI n (K + 1) (cB_run m C) (mT_aft r.1 m (M 68 m) r.2) ∧ zLp (m + 1) (ix (M 0 1) % 30) (K + 1) ds di da C0 M0 (cB_run m C) (mT_aft r.1 m (M 68 m) r.2) ∧ zk M (mT_aft r.1 m (M 68 m) r.2) ∧ (mT_aft r.1 m (M 68 m) r.2) 0 1 = M 0 1 ∧ (mT_aft r.1 m (M 68 m) r.2) 0 0 = M 0 0 := by
  have hn := zI_n h
  have hclk := zI_K h
  have ht0 : 0 ≤ (M 0 1).toInt := hclk.1
  have hlt : nI m < M 0 6 := (lt_ix (zmW_p (zI_W h)) (by omega)).mpr hmP
  unfold mT_go cB_run
  rw [ze_on (zI_E h) hm]
  by_cases c : M 68 m = -1
  · rw [if_pos c, c]
    have e1 : cF_note C (nI m) (C 0 9) (-1) 1 0 = M 0 6 := (zCq_note (C := C) (v := -1) hm (by rw [ze_clk (zI_E h)]; exact ht0) 1 0 (by unfold zQs; omega)).trans (ze_pr (zI_E h))
    refine ⟨(false, M), rfl, ?_, ?_, zk_aft (zk_r (zI_W h)) _ _ _, rfl, rfl⟩
    · show zI n (K + 1) (if nI m < cF_note C (nI m) (C 0 9) (-1) 1 0 then cF_offer (cF_note C (nI m) (C 0 9) (-1)) false else cF_note C (nI m) (C 0 9) (-1)) _
      rw [e1, if_pos hlt, ze_clk (zI_E h)]
      exact zI_le (zI_aft (zI_q h (zCq_offer (zCq_note hm ht0) false)) _ _) (by omega)
    · show zLp (m + 1) _ (K + 1) ds di da C0 M0 (if nI m < cF_note C (nI m) (C 0 9) (-1) 1 0 then cF_offer (cF_note C (nI m) (C 0 9) (-1)) false else cF_note C (nI m) (C 0 9) (-1)) _
      rw [e1, if_pos hlt, ze_clk (zI_E h)]
      exact zLp_idle hm (by omega) ht0 hl _
  · obtain ⟨u, hu, eu, h2⟩ := zI_run h hm c
    have hb := (zI_T h hu).2.2.2.2.1 (by rw [h2]; decide) (by rw [h2]; decide)
    have h16 : (M 6 u).toInt ≤ 16 := (zI_W h 6 u).2
    rw [if_neg c, eu, cF_at_nI (by omega)]
    obtain ⟨M1, k1, k2, hc⟩ := zI_ps hm hu 15 16 f K C M h (by omega) eu (by omega) (by decide) (by omega)
    have hsteps : cF_steps C u = cF_ps u 16 C := rfl
    have kc1 : zKc C (cF_ps u 16 C) := kc_ps u 16 (zKc_r C)
    dsimp only
    rw [hsteps]
    rcases hc with ⟨g1, g2, g3, g4, g5⟩ | ⟨g1, g2, g5⟩
    · have hc1 : M1 0 1 = M 0 1 := k1.1 1 (by decide)
      have hW1 := zI_W g2
      have e0 : cF_ps u 16 C (ztk u) 5 = 2 := (zI_st g2 (by omega)).trans g1
      have e9 : cF_ps u 16 C 0 9 = M 0 1 := (ze_clk (zI_E g2)).trans hc1
      have eU : cF_ps u 16 C (ztk u) 0 = nI u := zI_U g2 (by omega)
      have l1 := zLp_k hl kc1 k1
      rw [if_pos e0, e9, eU]
      have e10 : cF_note (cF_ps u 16 C) (nI m) (M 0 1) (nI u) 1 0 = M 0 6 := ((zCq_note (v := nI u) hm ht0 1 0 (by unfold zQs; omega)).trans (ze_pr (zI_E g2))).trans (k2.2 0 6 rfl)
      rw [e10, if_pos hlt]
      have hI3 : zI n K (cF_offer (cF_note (cF_ps u 16 C) (nI m) (M 0 1) (nI u)) true) M1 := zI_q g2 (zCq_offer (zCq_note hm ht0) true)
      have hR := zI_runT hI3 (by omega) hu hm g3
      have kcR := kc_runTick hI3 hu (zKc_r (cF_offer (cF_note (cF_ps u 16 C) (nI m) (M 0 1) (nI u)) true))
      have kcF : zKc (cF_offer (cF_note (cF_ps u 16 C) (nI m) (M 0 1) (nI u)) true) (if cF_isThrough (cF_runTick (cF_offer (cF_note (cF_ps u 16 C) (nI m) (M 0 1) (nI u)) true) u) u = true then cF_finish (cF_runTick (cF_offer (cF_note (cF_ps u 16 C) (nI m) (M 0 1) (nI u)) true) u) u else cF_runTick (cF_offer (cF_note (cF_ps u 16 C) (nI m) (M 0 1) (nI u)) true) u) := by
        split
        · exact kc_finish kcR u
        · exact kcR
      have kmR : zKm M1 (mF_runOne M1 (nI u) (nI m) (M1 (25 + u) (ix (M1 42 u)))) := km_runOne hW1 (by omega) hm (zKm_r M1)
      refine ⟨_, g5, zI_aft hR _ _, zLp_run hm (by omega) ht0 (nI_nm u (by omega)) l1 kcF kmR, zk_aft (zk_t k2 (zk_runOne (zk_r hW1) (vp_in_nI (by omega) (by decide)) _ _)) _ _ _, (kmR.1 1 (by decide)).trans hc1, (kmR.1 0 (by decide)).trans (k1.1 0 (by decide))⟩
    · have hc1 : M1 0 1 = M 0 1 := k1.1 1 (by decide)
      have e0 : ¬ cF_ps u 16 C (ztk u) 5 = 2 := by rw [zI_st g2 (by omega)]; exact g1
      have e9 : cF_ps u 16 C 0 9 = M 0 1 := (ze_clk (zI_E g2)).trans hc1
      have l1 := zLp_k hl kc1 k1
      rw [if_neg e0, e9]
      have e10 : cF_note (cF_ps u 16 C) (nI m) (M 0 1) (-1) 1 0 = M 0 6 := ((zCq_note (v := -1) hm ht0 1 0 (by unfold zQs; omega)).trans (ze_pr (zI_E g2))).trans (k2.2 0 6 rfl)
      rw [e10, if_pos hlt]
      exact ⟨_, g5, zI_aft (zI_q g2 (zCq_offer (zCq_note hm ht0) false)) _ _, zLp_idle hm (by omega) ht0 l1 _, zk_aft k2 _ _ _, hc1, k1.1 0 (by decide)⟩
