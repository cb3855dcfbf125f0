/-! The relation: waiting, steps -/
theorem zI_le {n K K' : Nat} {C M : zSg} (h : zI n K C M) (hK : K ≤ K') : zI n K' C M := by
  obtain ⟨h1, h2, h3, h4, h5, h6, ⟨a1, a2, a3, a4⟩, h8, h9, h10, h11, h12⟩ := h
  exact ⟨h1, h2, h3, h4, h5, h6, ⟨by omega, by omega, a3, a4⟩, h8, h9, h10, fun t ht => by have := h11 t ht; omega, by omega⟩
theorem zI_wt {n K u q : Nat} {C M : zSg} {its : Int32} (h : zI n K C M) (hK : K ≤ 200000) (hu : u < n) (h1 : M 41 u = 1) (hs : its = 4 ∨ its = 5) (hq : q < 6) (hb : its = 4 → ¬ M 101 q = -1) (hc : ¬ M (8 + u) (ix (M 42 u)) = 0) :
    zI n (K + 1) (zup (zup (zup (zup C (ztk u) 5 its) (ztk u) 13 (nI q)) (ztk u) 14 (C 0 12)) 0 12 (C 0 12 + 1)) (zup (zup (zup (zup M 41 u its) 49 u (nI q)) 50 u (M 0 10)) 0 10 (M 0 10 + 1)) := by
  have hn := zI_n h
  have hT := zI_T h hu
  have hA := zI_A h
  have h06 : zr1 its 0 6 := by rcases hs with e | e <;> rw [e] <;> exact ⟨by decide, by decide⟩
  have h05 : zr1 (nI q) 0 5 := zr_in (vp_in_nI hq (by decide)) (by decide) (by decide)
  have hne2 : ¬ its = 2 := by rcases hs with e | e <;> rw [e] <;> decide
  generalize hM' : zup (zup (zup (zup M 41 u its) 49 u (nI q)) 50 u (M 0 10)) 0 10 (M 0 10 + 1) = M'
  generalize hC' : zup (zup (zup (zup C (ztk u) 5 its) (ztk u) 13 (nI q)) (ztk u) 14 (C 0 12)) 0 12 (C 0 12 + 1) = C'
  have e : zE n C' M' := by
    rw [← hM', ← hC']
    refine zE_m (zE_m (zE_m (zE_c hn (zE_c hn (zE_c hn (zE_u hn (zI_E h) (f := 41) (j := u) (by unfold zdm; omega) rfl rfl) (znd_t (by decide))) (znd_t (by decide))) znd_na) (f := 49) (j := u) (by unfold zdm; omega)) (f := 50) (j := u) (by unfold zdm; omega)) (f := 0) (j := 10) (by unfold zdm; omega)
  have k : zk M M' := by
    rw [← hM']
    exact zk_up (zk_up (zk_up (zk_up (zk_r (zI_W h)) (f := 41) (by rfl) h06) (f := 49) (by rfl) h05) (f := 50) (by rfl) (zr_any _)) (f := 0) (j := 10) (by rfl) (zr_any _)
  have m41 : ∀ t, M' 41 t = if t = u then its else M 41 t := by rw [← hM']; exact fun t => rfl
  have m42 : ∀ t, M' 42 t = M 42 t := by rw [← hM']; exact fun t => rfl
  have m43 : ∀ t, M' 43 t = M 43 t := by rw [← hM']; exact fun t => rfl
  have m47 : ∀ t, M' 47 t = M 47 t := by rw [← hM']; exact fun t => rfl
  have m48 : ∀ t, M' 48 t = M 48 t := by rw [← hM']; exact fun t => rfl
  have m49 : ∀ t, M' 49 t = if t = u then nI q else M 49 t := by rw [← hM']; exact fun t => rfl
  have m50 : ∀ t, M' 50 t = if t = u then M 0 10 else M 50 t := by rw [← hM']; exact fun t => rfl
  have m68 : ∀ t, M' 68 t = M 68 t := by rw [← hM']; exact fun t => rfl
  have m69 : ∀ t, M' 69 t = M 69 t := by rw [← hM']; exact fun t => rfl
  have m101 : ∀ t, M' 101 t = M 101 t := by rw [← hM']; exact fun t => rfl
  have m01 : M' 0 1 = M 0 1 := by rw [← hM']; rfl
  have m06 : M' 0 6 = M 0 6 := by rw [← hM']; rfl
  have m010 : M' 0 10 = M 0 10 + 1 := by rw [← hM']; rfl
  have r1 : M' (8 + u) = M (8 + u) := by rw [← hM', zup_ne _ _ _ (by omega), zup_ne _ _ _ (by omega), zup_ne _ _ _ (by omega), zup_ne _ _ _ (by omega)]
  have r2 : M' (25 + u) = M (25 + u) := by rw [← hM', zup_ne _ _ _ (by omega), zup_ne _ _ _ (by omega), zup_ne _ _ _ (by omega), zup_ne _ _ _ (by omega)]
  have cb : ∀ t b, b ≠ 5 → b ≠ 13 → b ≠ 14 → C' (ztk t) b = C (ztk t) b := by
    intro t b b1 b2 b3
    rw [← hC', zup_a (ztk_lo (by decide)), zup_b b3, zup_b b2, zup_b b1]
  have c13 : ∀ t, C' (ztk t) 13 = if t = u then nI q else C (ztk t) 13 := by
    intro t
    rw [← hC', zup_a (ztk_lo (by decide)), zup_b (by decide)]
    by_cases c : t = u
    · rw [if_pos c, c, zup_at]
    · rw [if_neg c, zup_a (ztk_ne c), zup_b (by decide)]
  have c14 : ∀ t, C' (ztk t) 14 = if t = u then C 0 12 else C (ztk t) 14 := by
    intro t
    rw [← hC', zup_a (ztk_lo (by decide))]
    by_cases c : t = u
    · rw [if_pos c, c, zup_at]
    · rw [if_neg c, zup_a (ztk_ne c), zup_b (by decide), zup_b (by decide)]
  have c12 : C' 0 12 = C 0 12 + 1 := by rw [← hC', zup_at]
  have hMu : M' 41 u = its := by rw [m41, if_pos rfl]
  refine zI_mk h (Nat.le_succ _) hu e k (fun t ht => cb t 0 (by decide) (by decide) (by decide)) (fun t htu ht => ?_) (fun t htu ht => ?_) (fun t htu ht => ⟨by rw [← hM']; rfl, cb t 9 (by decide) (by decide) (by decide), fun j => by rw [← hC']; repeat rw [zup_a (by first | omega | (unfold ztk; omega))], fun j => by rw [← hM']; repeat rw [zup_a (by omega)]⟩) ?_ ?_ ?_ ?_ ?_ ?_ m01
  · rw [m41, m42, m43, m47, m48, m49, if_neg htu, if_neg htu]
    exact ⟨rfl, rfl, rfl, rfl, rfl, rfl⟩
  · rw [cb t 6 (by decide) (by decide) (by decide), c13, if_neg htu]
    exact ⟨rfl, rfl⟩
  · have r3 : M' 6 u = M 6 u := k.2 6 u rfl
    have r4 : M' 5 u = M 5 u := k.2 5 u rfl
    refine ⟨fun _ => ?_, fun h9 => ?_, fun h9 => ?_, fun h9 => ⟨?_, ?_⟩, fun _ _ => ?_, fun _ _ => ?_, fun r hr => ?_, fun h9 => ?_⟩
    · rw [cb u 6 (by decide) (by decide) (by decide), m42]
      exact hT.1 (by rw [h1]; decide)
    · rw [hMu] at h9
      rcases hs with e9 | e9 <;> rw [e9] at h9 <;> exact absurd h9 (by decide)
    · rw [hMu] at h9
      rcases hs with e9 | e9 <;> rw [e9] at h9 <;> exact absurd h9 (by decide)
    · rw [c13, m49, if_pos rfl, if_pos rfl]
    · rw [r1, m42]
      exact hc
    · rw [m42, r3, r1]
      exact hT.2.2.2.2.1 (by rw [h1]; decide) (by rw [h1]; decide)
    · rw [m43, r4]
      exact hT.2.2.2.2.2.1 (by rw [h1]; decide) (by rw [h1]; decide)
    · rw [r1, r2]
      rw [r3] at hr
      exact hT.2.2.2.2.2.2.1 r hr
    · rw [hMu] at h9
      rcases hs with e9 | e9 <;> rw [e9] at h9 <;> exact absurd h9 (by decide)
  · refine zAr_w (u := u) hK hA c12 m010 (fun t ht htu => ?_) (by rw [c14, if_pos rfl]) (by rw [m50, if_pos rfl])
    rw [m41, if_neg htu, m50, if_neg htu, c14, if_neg htu]
    exact ⟨rfl, rfl, rfl⟩
  · refine zOn_same (zI_O h) m06 (fun p _ => m68 p) (fun t ht => ?_)
    rw [m41]
    by_cases c : t = u
    · rw [if_pos c, c, h1]
      exact ⟨fun h9 => absurd h9 hne2, fun h9 => absurd h9 (by decide)⟩
    · rw [if_neg c]
  · refine zHd_s (zI_D h) (fun p t hp ht he => ?_)
    rw [m68] at he
    rw [m69, cb t 12 (by decide) (by decide) (by decide)]
    exact ⟨he, rfl, rfl⟩
  · intro t ht h9
    rw [m101, m49]
    by_cases c : t = u
    · rw [if_pos c, zix (by omega)]
      rw [c, hMu] at h9
      exact hb h9
    · rw [if_neg c]
      rw [m41, if_neg c] at h9
      exact zI_B h t ht h9
  · rw [m47]
    have := zI_M h hu
    omega
theorem zI_sl {n K u : Nat} {C M : zSg} {w : Int32} (h : zI n K C M) (hK : K ≤ 200000) (hu : u < n) (h1 : M 41 u = 1) :
    zI n (K + 1) (zup (zup (zup (zup C (ztk u) 5 3) (ztk u) 13 w) (ztk u) 14 (C 0 12)) 0 12 (C 0 12 + 1)) (zup (zup M 41 u 3) 48 u w) := by
  have hn := zI_n h
  have hT := zI_T h hu
  have hA := zI_A h
  generalize hM' : zup (zup M 41 u 3) 48 u w = M'
  generalize hC' : zup (zup (zup (zup C (ztk u) 5 3) (ztk u) 13 w) (ztk u) 14 (C 0 12)) 0 12 (C 0 12 + 1) = C'
  have e : zE n C' M' := by
    rw [← hM', ← hC']
    refine zE_m (zE_c hn (zE_c hn (zE_c hn (zE_u hn (zI_E h) (f := 41) (j := u) (by unfold zdm; omega) rfl rfl) (znd_t (by decide))) (znd_t (by decide))) znd_na) (f := 48) (j := u) (by unfold zdm; omega)
  have k : zk M M' := by
    rw [← hM']
    exact zk_up (zk_up (zk_r (zI_W h)) (f := 41) (by rfl) zst_3) (f := 48) (by rfl) (zr_any _)
  have m41 : ∀ t, M' 41 t = if t = u then 3 else M 41 t := by rw [← hM']; exact fun t => rfl
  have m48 : ∀ t, M' 48 t = if t = u then w else M 48 t := by rw [← hM']; exact fun t => rfl
  have mo : ∀ f t, f ≠ 41 → f ≠ 48 → M' f t = M f t := by
    intro f t a b
    rw [← hM', zup_a b, zup_a a]
  have cb : ∀ t b, b ≠ 5 → b ≠ 13 → b ≠ 14 → C' (ztk t) b = C (ztk t) b := by
    intro t b b1 b2 b3
    rw [← hC', zup_a (ztk_lo (by decide)), zup_b b3, zup_b b2, zup_b b1]
  have c13 : ∀ t, C' (ztk t) 13 = if t = u then w else C (ztk t) 13 := by
    intro t
    rw [← hC', zup_a (ztk_lo (by decide)), zup_b (by decide)]
    by_cases c : t = u
    · rw [if_pos c, c, zup_at]
    · rw [if_neg c, zup_a (ztk_ne c), zup_b (by decide)]
  have c14 : ∀ t, t ≠ u → C' (ztk t) 14 = C (ztk t) 14 := by
    intro t c
    rw [← hC', zup_a (ztk_lo (by decide)), zup_a (ztk_ne c), zup_b (by decide), zup_b (by decide)]
  have c12 : C' 0 12 = C 0 12 + 1 := by rw [← hC', zup_at]
  have hMu : M' 41 u = 3 := by rw [m41, if_pos rfl]
  have r1 : M' (8 + u) = M (8 + u) := by rw [← hM', zup_ne _ _ _ (by omega), zup_ne _ _ _ (by omega)]
  have r2 : M' (25 + u) = M (25 + u) := by rw [← hM', zup_ne _ _ _ (by omega), zup_ne _ _ _ (by omega)]
  refine zI_mk h (Nat.le_succ _) hu e k (fun t ht => cb t 0 (by decide) (by decide) (by decide)) (fun t htu ht => ?_) (fun t htu ht => ?_) (fun t htu ht => ⟨mo 46 t (by decide) (by decide), cb t 9 (by decide) (by decide) (by decide), fun j => by rw [← hC']; repeat rw [zup_a (by first | omega | (unfold ztk; omega))], fun j => mo (52 + t) j (by omega) (by omega)⟩) ?_ ?_ ?_ ?_ ?_ ?_ (mo 0 1 (by decide) (by decide))
  · rw [m41, m48, if_neg htu, if_neg htu, mo 42 t (by decide) (by decide), mo 43 t (by decide) (by decide), mo 47 t (by decide) (by decide), mo 49 t (by decide) (by decide)]
    exact ⟨rfl, rfl, rfl, rfl, rfl, rfl⟩
  · rw [cb t 6 (by decide) (by decide) (by decide), c13, if_neg htu]
    exact ⟨rfl, rfl⟩
  · have r3 : M' 6 u = M 6 u := k.2 6 u rfl
    have r4 : M' 5 u = M 5 u := k.2 5 u rfl
    have m42 := mo 42 u (by decide) (by decide)
    refine ⟨fun _ => ?_, fun h9 => ?_, fun h9 => ?_, fun h9 => ?_, fun _ _ => ?_, fun _ _ => ?_, fun r hr => ?_, fun h9 => ?_⟩
    · rw [cb u 6 (by decide) (by decide) (by decide), m42]
      exact hT.1 (by rw [h1]; decide)
    · rw [hMu] at h9
      exact absurd h9 (by decide)
    · rw [c13, m48, if_pos rfl, if_pos rfl]
    · rw [hMu] at h9
      exact absurd h9 (by decide)
    · rw [m42, r3, r1]
      exact hT.2.2.2.2.1 (by rw [h1]; decide) (by rw [h1]; decide)
    · rw [mo 43 u (by decide) (by decide), r4]
      exact hT.2.2.2.2.2.1 (by rw [h1]; decide) (by rw [h1]; decide)
    · rw [r1, r2]
      rw [r3] at hr
      exact hT.2.2.2.2.2.2.1 r hr
    · rw [hMu] at h9
      exact absurd h9 (by decide)
  · have g1 : (C 0 12 + 1).toInt = (C 0 12).toInt + 1 := by
      have := hA.1
      exact fb_addI (y := 1) (by rw [show (1 : Int32).toInt = 1 from rfl]; omega) (by rw [show (1 : Int32).toInt = 1 from rfl]; omega)
    refine zAr_s (u := u) (Nat.le_succ _) hA (by rw [c12, g1]; have := hA.1; omega) (mo 0 10 (by decide) (by decide)) (fun t ht htu => ?_) (by rw [hMu]; decide)
    rw [m41, if_neg htu, mo 50 t (by decide) (by decide), c14 t htu]
    exact ⟨rfl, rfl, rfl⟩
  · refine zOn_same (zI_O h) (mo 0 6 (by decide) (by decide)) (fun p _ => mo 68 p (by decide) (by decide)) (fun t ht => ?_)
    rw [m41]
    by_cases c : t = u
    · rw [if_pos c, c, h1]
      exact ⟨fun h9 => absurd h9 (by decide), fun h9 => absurd h9 (by decide)⟩
    · rw [if_neg c]
  · refine zHd_s (zI_D h) (fun p t hp ht he => ?_)
    rw [mo 68 p (by decide) (by decide)] at he
    rw [mo 69 p (by decide) (by decide), cb t 12 (by decide) (by decide) (by decide)]
    exact ⟨he, rfl, rfl⟩
  · refine zBk_s (zI_W h) (zI_B h) (fun t ht h9 => ?_) (fun r _ hr => by rw [mo 101 r (by decide) (by decide)]; exact hr)
    rw [m41] at h9
    by_cases c : t = u
    · rw [if_pos c] at h9
      exact absurd h9 (by decide)
    · rw [if_neg c] at h9
      exact ⟨h9, mo 49 t (by decide) (by decide)⟩
  · rw [mo 47 u (by decide) (by decide)]
    have := zI_M h hu
    omega
theorem zI_on2 {n K u p : Nat} {C M : zSg} (h : zI n K C M) (hu : u < n) (hp : p < 3) (hup : M 68 p = nI u) : M 41 u = 2 := by
  have hn := zI_n h
  obtain ⟨t, ht, e, hs⟩ := (zI_O h).2.1 p hp (by rw [hup]; exact nI_nm u (by omega))
  have : t = u := nI_inj (by omega) (by omega) (e.symm.trans hup)
  rw [← this]; exact hs
theorem zI_stays {n K u p q : Nat} {C M : zSg} {its : Int32} (h : zI n K C M) (hK : K ≤ 200000) (hu : u < n) (hp : p < 3) (hup : M 68 p = nI u) (hs : its = 4 ∨ its = 5) (hq : q < 6) (hb : its = 4 → ¬ M 101 q = -1) (hc : ¬ M (8 + u) (ix (M 42 u)) = 0) :
    zI n (K + 1) (cF_waitFor C u its (nI q)) (mF_stay M (nI u) its (nI q)) := by
  have hn := zI_n h
  have g := zI_wt (q := q) (zI_off h hu hp hup) hK hu (by rw [zup_at]) hs hq hb (by rw [zup_ne _ _ _ (by omega), zup_ne _ _ _ (by omega)]; exact hc)
  rw [zup_zup, zup_zup, zup_a (x := 0) (a := ztk u) (ztk_lo (by decide)).symm, zup_a (x := 0) (a := 12) (by decide)] at g
  have e1 : cF_waitFor C u its (nI q) = zup (zup (zup (zup (zup C 12 p (-1)) (ztk u) 5 its) (ztk u) 13 (nI q)) (ztk u) 14 (C 0 12)) 0 12 (C 0 12 + 1) := by
    unfold cF_waitFor
    rw [cF_leave_on (zI_E h) (zI_O h) (by omega) (zI_U h (by omega)) hp hup]
    dsimp only
    have g0 : zup (zup (zup C 12 p (-1)) (ztk u) 5 its) (ztk u) 13 (nI q) 0 12 = C 0 12 := by
      rw [zup_b (by decide), zup_b (by decide), zup_a (by decide)]
    rw [g0, zup_b (k := 14) (j := 12) (by decide), g0]
  have e2 : mF_stay M (nI u) its (nI q) = zup (zup (zup (zup (zup M 68 p (-1)) 41 u its) 49 u (nI q)) 50 u (M 0 10)) 0 10 (M 0 10 + 1) := by
    unfold mF_stay
    rw [mF_leave_on hn (zI_O h) (by omega) hp hup (zmW_p3 (zI_W h)), zix (show u < 2147483648 by omega)]
    rfl
  rw [e1, e2]
  exact g
theorem zI_sleeps {n K u p : Nat} {C M : zSg} {w : Int32} (h : zI n K C M) (hK : K ≤ 200000) (hu : u < n) (hp : p < 3) (hup : M 68 p = nI u) :
    zI n (K + 1) (cF_waitFor C u 3 w) (zup (zup (mF_leave M (nI u)) 41 u 3) 48 u w) := by
  have hn := zI_n h
  have g := zI_sl (w := w) (zI_off h hu hp hup) hK hu (by rw [zup_at])
  rw [zup_zup, zup_zup, zup_a (x := 0) (a := ztk u) (ztk_lo (by decide)).symm, zup_a (x := 0) (a := 12) (by decide)] at g
  have e1 : cF_waitFor C u 3 w = zup (zup (zup (zup (zup C 12 p (-1)) (ztk u) 5 3) (ztk u) 13 w) (ztk u) 14 (C 0 12)) 0 12 (C 0 12 + 1) := by
    unfold cF_waitFor
    rw [cF_leave_on (zI_E h) (zI_O h) (by omega) (zI_U h (by omega)) hp hup]
    dsimp only
    have g0 : zup (zup (zup C 12 p (-1)) (ztk u) 5 3) (ztk u) 13 w 0 12 = C 0 12 := by
      rw [zup_b (by decide), zup_b (by decide), zup_a (by decide)]
    rw [g0, zup_b (k := 14) (j := 12) (by decide), g0]
  rw [e1, mF_leave_on hn (zI_O h) (by omega) hp hup (zmW_p3 (zI_W h))]
  exact g
theorem leave_6 (C : zSg) (u : Nat) (x : Int32) : cF_leave (zup C (ztk u) 6 x) u = zup (cF_leave C u) (ztk u) 6 x := by
  funext a b
  rw [cF_leave_at, zup_b (k := 6) (j := 0) (by decide)]
  have e12 : ∀ j, zup C (ztk u) 6 x 12 j = C 12 j := fun j => zup_a (ztk_lo (by decide)).symm
  rw [e12]
  by_cases c : a = ztk u ∧ b = 6
  · obtain ⟨rfl, rfl⟩ := c
    rw [if_neg (fun e => ztk_lo (by decide) e.1), zup_at, zup_at]
  · rw [zup_o c, zup_o c, cF_leave_at]
theorem wait_6 (C : zSg) (u : Nat) (x st w : Int32) : cF_waitFor (zup C (ztk u) 6 x) u st w = zup (cF_waitFor C u st w) (ztk u) 6 x := by
  unfold cF_waitFor
  rw [leave_6]
  dsimp only
  have t0 : ztk u ≠ 0 := ztk_lo (by decide)
  generalize cF_leave C u = L
  rw [zup_comm L x st (by omega), zup_comm (zup L (ztk u) 5 st) x w (by omega)]
  have e1 : ∀ A : zSg, zup A (ztk u) 6 x 0 12 = A 0 12 := fun A => zup_b (by decide)
  rw [e1, zup_comm (zup (zup L (ztk u) 5 st) (ztk u) 13 w) x _ (by omega), e1, zup_comm _ x _ (by omega)]
theorem wait_back (C : zSg) (u : Nat) (x st w : Int32) : zup (cF_waitFor (zup C (ztk u) 6 x) u st w) (ztk u) 6 (C (ztk u) 6) = cF_waitFor C u st w := by
  rw [wait_6, zup_zup, ← wait_6, zup_self]
theorem next_rg (M : zSg) (its place : Int32) : mF_next M its place = -1 ∨ ∃ k, k < ix (M 0 15) ∧ mF_next M its place = nI k ∧ M 41 k = its := by
  unfold mF_next
  refine q_fold (P := fun _ s => s = -1 ∨ ∃ k, k < ix (M 0 15) ∧ s = nI k ∧ M 41 k = its) (fun i s => mB_next M its place i s) (ix (M 0 15)) (Or.inl rfl) (fun k s hk hs => ?_)
  show mB_next M its place k s = -1 ∨ ∃ k2, k2 < ix (M 0 15) ∧ mB_next M its place k s = nI k2 ∧ M 41 k2 = its
  unfold mB_next
  by_cases c : M 41 k = its
  · rw [if_pos c]
    repeat' split
    all_goals first | exact hs | exact Or.inr ⟨k, hk, rfl, c⟩
  · rw [if_neg c]
    exact hs
theorem wake_st {M : zSg} {k u : Nat} (hk : k < 16) (hku : u ≠ k) : mF_wake M (nI k) 41 u = M 41 u ∧ (∀ p, mF_wake M (nI k) 68 p = M 68 p) ∧ mF_wake M (nI k) 42 u = M 42 u := by
  rw [mF_wake_ch M hk]
  refine ⟨?_, fun _ => rfl, rfl⟩
  show (if u = k then 1 else M 41 u) = M 41 u
  rw [if_neg hku]
theorem free_st {M : zSg} (hW : zmW M) {u : Nat} (l : Int32) (hu : ¬ M 41 u = 4) : mF_free M l 41 u = M 41 u ∧ (∀ p, mF_free M l 68 p = M 68 p) ∧ mF_free M l 42 u = M 42 u := by
  have h16 := zmW_n16 hW
  unfold mF_free
  dsimp only
  rcases next_rg (zup M 101 (ix l) (-1)) 4 l with e | ⟨k, hk, e, hs⟩
  · rw [e, if_pos rfl]
    exact ⟨rfl, fun _ => rfl, rfl⟩
  · have hk16 : k < 16 := by
      have : ix (zup M 101 (ix l) (-1) 0 15) = ix (M 0 15) := rfl
      omega
    have hku : u ≠ k := fun e9 => hu (e9 ▸ hs)
    rw [e, if_neg (nI_nm k hk16), zix (by omega)]
    obtain ⟨a, b, c⟩ := wake_st (M := zup (zup (zup M 101 (ix l) (-1)) 101 (ix l) (nI k)) 42 k (zup (zup M 101 (ix l) (-1)) 101 (ix l) (nI k) 42 k + 1)) hk16 hku
    refine ⟨a, b, c.trans ?_⟩
    rw [zup_b hku]
    rfl
theorem signal_st {M : zSg} (hW : zmW M) {u : Nat} (l : Int32) (hu : ¬ M 41 u = 5) : mF_signal M l 41 u = M 41 u ∧ (∀ p, mF_signal M l 68 p = M 68 p) ∧ mF_signal M l 42 u = M 42 u := by
  have h16 := zmW_n16 hW
  unfold mF_signal
  rcases next_rg M 5 l with e | ⟨k, hk, e, hs⟩
  · rw [e, if_pos rfl]
    exact ⟨rfl, fun _ => rfl, rfl⟩
  · have hk16 : k < 16 := by omega
    have hku : u ≠ k := fun e9 => hu (e9 ▸ hs)
    rw [e, if_neg (nI_nm k hk16)]
    try dsimp only
    rw [zix (by omega)]
    obtain ⟨a, b, c⟩ := wake_st (M := zup M 42 k (M 42 k + 1)) hk16 hku
    exact ⟨a, b, c.trans (zup_b hku)⟩
