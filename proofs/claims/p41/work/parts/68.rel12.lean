/-! The relation: ends -/
theorem zE_leave {n u : Nat} {C M : zSg} (hn : n ≤ 16) (h : zE n C M) (hU : C (ztk u) 0 = nI u) (hP : ∀ p, p < 3 → M 68 p = nI u → p < ix (M 0 6)) (hP3 : ix (M 0 6) ≤ 3) : zE n (cF_leave C u) (mF_leave M (nI u)) := by
  intro f j hd
  have h9 := h f j hd
  by_cases c : f = 68
  · subst c
    have hj : j < 3 := by unfold zdm at hd; omega
    have e1 : cF_leave C u 12 j = mF_leave M (nI u) 68 j := by
      rw [cF_leave_at, mF_leave_at, hU, ze_on h hj]
      by_cases d : M 68 j = nI u
      · rw [if_pos ⟨rfl, hj, d⟩, if_pos ⟨rfl, hP j hj d, d⟩]
      · rw [if_neg (fun e => d e.2.2), if_neg (fun e => d e.2.2)]
    exact e1
  · have n12 : ¬ (zph f j).1 = 12 := by
      intro e
      have e2 := zps_ph hn hd
      rw [e] at e2
      have e3 : (68, (zph f j).2) = (f, j) := e2
      exact c (congrArg Prod.fst e3).symm
    rw [cF_leave_at, mF_leave_at, if_neg (fun e => n12 e.1), if_neg (fun e => c e.1)]
    exact h9
theorem zOn_fin {n : Nat} {M M' : zSg} (hn : n ≤ 16) (h : zOn n M) {u : Nat} (hu : u < n) (h6 : M' 0 6 = M 0 6) (h1 : ∀ q, q < 3 → M' 68 q = if M 68 q = nI u then -1 else M 68 q) (h2 : ∀ t, t < n → t ≠ u → (M' 41 t = 2 ↔ M 41 t = 2)) (h3 : ¬ M' 41 u = 2) : zOn n M' := by
  obtain ⟨a, b, c, d⟩ := h
  refine ⟨fun t ht hs => ?_, fun q hq hm => ?_, fun q r hq hr e hm => ?_, fun q hq h9 => ?_⟩
  · have htu : t ≠ u := fun e => h3 (e ▸ hs)
    obtain ⟨q, hq, e⟩ := a t ht ((h2 t ht htu).mp hs)
    refine ⟨q, hq, ?_⟩
    rw [h1 q hq, if_neg (fun e9 => htu (nI_inj (by omega) (by omega) (e.symm.trans e9)))]
    exact e
  · rw [h1 q hq] at hm ⊢
    by_cases e9 : M 68 q = nI u
    · rw [if_pos e9] at hm
      exact absurd rfl hm
    · rw [if_neg e9] at hm ⊢
      obtain ⟨t, ht, e, hs⟩ := b q hq hm
      exact ⟨t, ht, e, (h2 t ht (fun e8 => e9 (e8 ▸ e))).mpr hs⟩
  · rw [h1 q hq] at e hm
    rw [h1 r hr] at e
    by_cases e9 : M 68 q = nI u
    · rw [if_pos e9] at hm
      exact absurd rfl hm
    · rw [if_neg e9] at hm e
      by_cases e8 : M 68 r = nI u
      · rw [if_pos e8] at e
        exact absurd e hm
      · rw [if_neg e8] at e
        exact c q r hq hr e hm
  · rw [h1 q hq]
    rw [h6] at h9
    have := d q hq h9
    rw [this]
    split <;> rfl
theorem zcnt_rg {t : Nat} (ht : t < 16) (j : Nat) (v : Int32) : zr1 v (zlo (52 + t) j) (zhi (52 + t) j) := by
  have : ∀ t, t < 16 → ∀ j, zlo (52 + t) j = -2147483648 ∧ zhi (52 + t) j = 2147483647 := by
    intro t ht j
    match t, ht with
    | 0, _ => exact ⟨rfl, rfl⟩
    | 1, _ => exact ⟨rfl, rfl⟩
    | 2, _ => exact ⟨rfl, rfl⟩
    | 3, _ => exact ⟨rfl, rfl⟩
    | 4, _ => exact ⟨rfl, rfl⟩
    | 5, _ => exact ⟨rfl, rfl⟩
    | 6, _ => exact ⟨rfl, rfl⟩
    | 7, _ => exact ⟨rfl, rfl⟩
    | 8, _ => exact ⟨rfl, rfl⟩
    | 9, _ => exact ⟨rfl, rfl⟩
    | 10, _ => exact ⟨rfl, rfl⟩
    | 11, _ => exact ⟨rfl, rfl⟩
    | 12, _ => exact ⟨rfl, rfl⟩
    | 13, _ => exact ⟨rfl, rfl⟩
    | 14, _ => exact ⟨rfl, rfl⟩
    | 15, _ => exact ⟨rfl, rfl⟩
    | t + 16, h => exact absurd h (by omega)
  rw [(this t ht j).1, (this t ht j).2]
  exact zr_any v
theorem zI_fin {n K u : Nat} {C M C4 M4 : zSg} (x : Int32) (h : zI n K C M) (hu : u < n) (e : zE n C4 M4) (k : zk M M4) (mv : ∀ f j, ¬ ((f = 42 ∨ f = 43) ∧ j = u) → M4 f j = M f j) (cv : ∀ a b, ¬ (a = ztk u ∧ (b = 6 ∨ b = 8)) → C4 a b = C a b) :
    zI n K (zup (zup (cF_leave C4 u) (ztk u) 5 6) (ztk u + 4) 4 x) (zup (zup (zup (mF_leave M4 (nI u)) 41 u 6) 42 u (M4 6 u)) (52 + u) 4 x) := by
  have hn := zI_n h
  have hO := zI_O h
  have hT := zI_T h hu
  have hU4 : C4 (ztk u) 0 = nI u := by rw [cv _ _ (by omega)]; exact zI_U h (by omega)
  have m46 : M4 0 6 = M 0 6 := mv 0 6 (by omega)
  have m468 : ∀ p, M4 68 p = M 68 p := fun p => mv 68 p (by omega)
  have hP3 : ix (M4 0 6) ≤ 3 := by rw [m46]; exact zmW_p3 (zI_W h)
  have hPp : ∀ p, p < 3 → M4 68 p = nI u → p < ix (M4 0 6) := fun p hp e9 => by
    rw [m468] at e9
    rw [m46]
    exact zOn_pp hO hp (by rw [e9]; exact nI_nm u (by omega))
  generalize hM' : zup (zup (zup (mF_leave M4 (nI u)) 41 u 6) 42 u (M4 6 u)) (52 + u) 4 x = M'
  generalize hC' : zup (zup (cF_leave C4 u) (ztk u) 5 6) (ztk u + 4) 4 x = C'
  have eE : zE n C' M' := by
    rw [← hM', ← hC']
    exact zE_u hn (zE_m (zE_u hn (zE_leave hn e hU4 hPp hP3) (f := 41) (j := u) (by unfold zdm; omega) rfl rfl) (f := 42) (j := u) (by unfold zdm; omega)) (f := 52 + u) (j := 4) (by unfold zdm; omega) (zph_52 4 (by omega)) rfl
  have kk : zk M M' := by
    rw [← hM']
    exact zk_cnt (zk_up (zk_up (zk_leave k (nI u)) (f := 41) (by rfl) zst_6) (f := 42) (by rfl) (zr_any _)) (by omega) _ _
  have mo : ∀ f j, f ≠ 68 → f ≠ 41 → f ≠ 42 → f ≠ 43 → f ≠ 52 + u → M' f j = M f j := by
    intro f j a1 a2 a3 a4 a5
    rw [← hM', zup_a a5, zup_a a3, zup_a a2, mF_leave_at, if_neg (fun e => a1 e.1)]
    exact mv f j (by omega)
  have m41 : ∀ t, M' 41 t = if t = u then 6 else M 41 t := by
    intro t
    rw [← hM', zup_a (by omega), zup_a (by omega)]
    by_cases c : t = u
    · rw [if_pos c, c, zup_at]
    · rw [if_neg c, zup_b c, mF_leave_at, if_neg (fun e => by omega)]
      exact mv 41 t (by omega)
  have m42 : ∀ t, M' 42 t = if t = u then M 6 u else M 42 t := by
    intro t
    rw [← hM', zup_a (by omega)]
    by_cases c : t = u
    · rw [if_pos c, c, zup_at]
      exact mv 6 u (by omega)
    · rw [if_neg c, zup_b c, zup_a (by omega), mF_leave_at, if_neg (fun e => by omega)]
      exact mv 42 t (by omega)
  have m43 : ∀ t, t ≠ u → M' 43 t = M 43 t := by
    intro t c
    rw [← hM', zup_a (by omega), zup_a (by omega), zup_a (by omega), mF_leave_at, if_neg (fun e => by omega)]
    exact mv 43 t (by omega)
  have m68 : ∀ q, q < 3 → M' 68 q = if M 68 q = nI u then -1 else M 68 q := by
    intro q hq
    rw [← hM', zup_a (by omega), zup_a (by omega), zup_a (by omega), mF_leave_at, m468]
    by_cases c : M 68 q = nI u
    · rw [if_pos c, if_pos ⟨rfl, hPp q hq (by rw [m468]; exact c), c⟩]
    · rw [if_neg c, if_neg (fun e => c e.2.2)]
  have cb : ∀ t b, b ≠ 5 → b ≠ 6 → b ≠ 8 → C' (ztk t) b = C (ztk t) b := by
    intro t b b1 b2 b3
    rw [← hC', zup_a (by unfold ztk; omega), zup_b b1, cF_leave_at, if_neg (fun e => ztk_lo (by decide) e.1)]
    exact cv _ _ (by omega)
  have cb6 : ∀ t, t ≠ u → C' (ztk t) 6 = C (ztk t) 6 := by
    intro t c
    rw [← hC', zup_a (by unfold ztk; omega), zup_b (by decide), cF_leave_at, if_neg (fun e => ztk_lo (by decide) e.1)]
    exact cv _ _ (fun e => ztk_ne c e.1)
  have c12 : C' 0 12 = C 0 12 := by
    rw [← hC', zup_a (by unfold ztk; omega), zup_b (by decide), cF_leave_at, if_neg (fun e => by omega)]
    exact cv _ _ (by unfold ztk; omega)
  have hMu : M' 41 u = 6 := by rw [m41, if_pos rfl]
  refine zI_mk h (Nat.le_refl _) hu eE kk (fun t ht => cb t 0 (by decide) (by decide) (by decide)) (fun t htu ht => ?_) (fun t htu ht => ⟨cb6 t htu, cb t 13 (by decide) (by decide) (by decide)⟩) (fun t htu ht => ⟨mo 46 t (by decide) (by decide) (by decide) (by decide) (by omega), cb t 9 (by decide) (by decide) (by decide), fun j => by
    rw [← hC', zup_a (by unfold ztk; omega), zup_a (by unfold ztk; omega), cF_leave_at, if_neg (fun e => by have := e.1; unfold ztk at this; omega)]
    exact cv _ _ (by unfold ztk; omega), fun j => mo (52 + t) j (by omega) (by omega) (by omega) (by omega) (by omega)⟩) ?_ ?_ ?_ ?_ ?_ ?_ (mo 0 1 (by decide) (by decide) (by decide) (by decide) (by omega))
  · rw [m41, m42, m43 t htu, if_neg htu, if_neg htu, mo 47 t (by decide) (by decide) (by decide) (by decide) (by omega), mo 48 t (by decide) (by decide) (by decide) (by decide) (by omega), mo 49 t (by decide) (by decide) (by decide) (by decide) (by omega)]
    exact ⟨rfl, rfl, rfl, rfl, rfl, rfl⟩
  · have r1 : M' (8 + u) = M (8 + u) := funext fun j => mo _ j (by omega) (by omega) (by omega) (by omega) (by omega)
    have r2 : M' (25 + u) = M (25 + u) := funext fun j => mo _ j (by omega) (by omega) (by omega) (by omega) (by omega)
    have r3 : M' 6 u = M 6 u := mo 6 u (by decide) (by decide) (by decide) (by decide) (by omega)
    refine ⟨fun h9 => absurd hMu h9, fun _ => ?_, fun h9 => ?_, fun h9 => ?_, fun _ h9 => absurd hMu h9, fun _ h9 => absurd hMu h9, fun r hr => ?_, fun h9 => ?_⟩
    · rw [m42, if_pos rfl, r3]
    · rw [hMu] at h9; exact absurd h9 (by decide)
    · rw [hMu] at h9; exact absurd h9 (by decide)
    · rw [r1, r2]
      rw [r3] at hr
      exact hT.2.2.2.2.2.2.1 r hr
    · rw [hMu] at h9; exact absurd h9 (by decide)
  · have hA := zI_A h
    refine zAr_s (u := u) (Nat.le_refl _) hA (by rw [c12]; have := hA.1; omega) (mo 0 10 (by decide) (by decide) (by decide) (by decide) (by omega)) (fun t ht htu => ?_) (by rw [hMu]; decide)
    rw [m41, if_neg htu, mo 50 t (by decide) (by decide) (by decide) (by decide) (by omega), cb t 14 (by decide) (by decide) (by decide)]
    exact ⟨rfl, rfl, rfl⟩
  · exact zOn_fin hn hO hu (mo 0 6 (by decide) (by decide) (by decide) (by decide) (by omega)) m68 (fun t ht htu => by rw [m41, if_neg htu]) (by rw [hMu]; decide)
  · refine zHd_s (zI_D h) (fun p t hp ht he => ?_)
    rw [m68 p hp] at he
    by_cases c : M 68 p = nI u
    · rw [if_pos c] at he
      exact absurd he.symm (nI_nm t (by omega))
    · rw [if_neg c] at he
      exact ⟨he, mo 69 p (by decide) (by decide) (by decide) (by decide) (by omega), cb t 12 (by decide) (by decide) (by decide)⟩
  · refine zBk_s (zI_W h) (zI_B h) (fun t ht h9 => ?_) (fun r _ hr => by rw [mo 101 r (by decide) (by decide) (by decide) (by decide) (by omega)]; exact hr)
    rw [m41] at h9
    by_cases c : t = u
    · rw [if_pos c] at h9
      exact absurd h9 (by decide)
    · rw [if_neg c] at h9
      exact ⟨h9, mo 49 t (by decide) (by decide) (by decide) (by decide) (by omega)⟩
  · rw [mo 47 u (by decide) (by decide) (by decide) (by decide) (by omega)]
    exact zI_M h hu
theorem zI_finish {n K u : Nat} {C M C4 M4 : zSg} (h : zI n K C M) (hu : u < n) (e : zE n C4 M4) (k : zk M M4) (mv : ∀ f j, ¬ ((f = 42 ∨ f = 43) ∧ j = u) → M4 f j = M f j) (cv : ∀ a b, ¬ (a = ztk u ∧ (b = 6 ∨ b = 8)) → C4 a b = C a b) :
    zI n K (cF_finish C4 u) (mF_finish M4 (nI u)) := by
  have hn := zI_n h
  have g := zI_fin (M4 0 1) h hu e k mv cv
  have hxu : ix (nI u) = u := zix (by omega)
  have eC : cF_finish C4 u = (List.range 6).foldl (fun s q => cF_unlock s u (nI q)) (zup (zup (cF_leave C4 u) (ztk u) 5 6) (ztk u + 4) 4 (M4 0 1)) := by
    unfold cF_finish
    dsimp only
    have : zup (cF_leave C4 u) (ztk u) 5 6 0 9 = M4 0 1 := by
      rw [zup_b (by decide), cF_leave_at, if_neg (fun e => by omega)]
      exact ze_clk e
    rw [this]
  have eM : mF_finish M4 (nI u) = (List.range 6).foldl (fun s i => mB_finish (nI u) i s) (zup (zup (zup (mF_leave M4 (nI u)) 41 u 6) 42 u (M4 6 u)) (52 + u) 4 (M4 0 1)) := by
    unfold mF_finish
    dsimp only
    rw [hxu]
    have a1 : zup (mF_leave M4 (nI u)) 41 u 6 6 u = M4 6 u := by
      rw [zup_a (by decide), mF_leave_at, if_neg (fun e => by omega)]
    have a2 : ∀ v, zup (zup (mF_leave M4 (nI u)) 41 u 6) 42 u v 0 1 = M4 0 1 := fun v => by
      rw [zup_a (by decide), zup_a (by decide), mF_leave_at, if_neg (fun e => by omega)]
    rw [a1, a2]
    rfl
  have h6 : zup (zup (zup (mF_leave M4 (nI u)) 41 u 6) 42 u (M4 6 u)) (52 + u) 4 (M4 0 1) 41 u = 6 := by
    rw [zup_a (by omega), zup_a (by omega), zup_at]
  rw [eC, eM]
  generalize zup (zup (cF_leave C4 u) (ztk u) 5 6) (ztk u + 4) 4 (M4 0 1) = C1 at g ⊢
  generalize zup (zup (zup (mF_leave M4 (nI u)) 41 u 6) 42 u (M4 6 u)) (52 + u) 4 (M4 0 1) = M1 at g h6 ⊢
  have key : zI n K ((List.range 6).foldl (fun s q => cF_unlock s u (nI q)) C1) ((List.range 6).foldl (fun s i => mB_finish (nI u) i s) M1) ∧ (List.range 6).foldl (fun s i => mB_finish (nI u) i s) M1 41 u = 6 := by
    refine q_fold2 (R := fun _ C M => zI n K C M ∧ M 41 u = 6) (fun q s => cF_unlock s u (nI q)) (fun i s => mB_finish (nI u) i s) 6 6 (Nat.le_refl _) ⟨g, h6⟩ (fun q C M hq h => ⟨zI_unlock h.1 hq (by omega) (by rw [h.2]; decide), ?_⟩) (fun q C M h1 h2 h => absurd h2 (by omega))
    show (if M 101 q = nI u then mF_free M (nI q) else M) 41 u = 6
    split
    · exact (free_st (zI_W h.1) (nI q) (by rw [h.2]; decide)).1.trans h.2
    · exact h.2
  exact key.1
