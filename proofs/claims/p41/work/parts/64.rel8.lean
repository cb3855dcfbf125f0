/-! The relation: processors given -/
theorem lt_ix {x : Int32} (h0 : 0 ≤ x.toInt) {p : Nat} (hp : p < 100) : nI p < x ↔ p < ix x := by
  have h1 := ztoInt h0
  rw [Int32.lt_iff_toInt_lt, nI_toInt (by omega)]
  omega
theorem zI_give {n K u p : Nat} {C M : zSg} (h : zI n K C M) (hu : u < n) (hp : p < 3) (hpp : p < ix (M 0 6)) (hm1 : M 68 p = -1) (h1 : M 41 u = 1) : zI n K (zup (zup (zup C 12 p (nI u)) (ztk u) 5 2) (ztk u) 12 0) (zup (zup (zup M 68 p (nI u)) 69 p 0) 41 u 2) := by
  have hn := zI_n h
  have hT := zI_T h hu
  have hA := zI_A h
  have hO := zI_O h
  have c14 : ∀ t b, b ≠ 5 → b ≠ 12 → zup (zup (zup C 12 p (nI u)) (ztk u) 5 2) (ztk u) 12 0 (ztk t) b = C (ztk t) b := fun t b hb hb2 => by rw [zup_b hb2, zup_b hb, zup_a (ztk_lo (by decide))]
  have m41 : ∀ t, zup (zup (zup M 68 p (nI u)) 69 p 0) 41 u 2 41 t = if t = u then 2 else M 41 t := fun t => rfl
  have m68 : ∀ q, zup (zup (zup M 68 p (nI u)) 69 p 0) 41 u 2 68 q = if q = p then nI u else M 68 q := fun t => rfl
  have m69 : ∀ q, zup (zup (zup M 68 p (nI u)) 69 p 0) 41 u 2 69 q = if q = p then 0 else M 69 q := fun t => rfl
  have h2u : zup (zup (zup M 68 p (nI u)) 69 p 0) 41 u 2 41 u = 2 := by rw [m41, if_pos rfl]
  have e1 := zE_u hn (zI_E h) (f := 68) (j := p) (v := nI u) (w := nI u) (by unfold zdm; omega) rfl rfl
  have e2 := zE_m (f := 69) (j := p) (v := 0) e1 (by unfold zdm; omega)
  have e3 := zE_u hn e2 (f := 41) (j := u) (v := 2) (w := 2) (by unfold zdm; omega) rfl rfl
  have e4 := zE_c (a := ztk u) (b := 12) (v := 0) hn e3 (znd_t (by decide))
  refine zI_mk h (Nat.le_refl _) hu e4 (zk_up (zk_up (zk_up (zk_r (zI_W h)) (f := 68) (by rfl) (zr_nI (by omega))) (f := 69) (by rfl) (zr_any _)) (f := 41) (by rfl) zst_2) (fun t ht => c14 t 0 (by decide) (by decide)) (fun t htu ht => ⟨by rw [m41, if_neg htu], rfl, rfl, rfl, rfl, rfl⟩) (fun t htu ht => ⟨c14 t 6 (by decide) (by decide), c14 t 13 (by decide) (by decide)⟩) (fun t htu ht => ⟨rfl, c14 t 9 (by decide) (by decide), fun j => by rw [zup_a (by unfold ztk; omega), zup_a (by unfold ztk; omega), zup_a (by unfold ztk; omega)], fun j => by rw [zup_a (by omega), zup_a (by omega), zup_a (by omega)]⟩) ?_ ?_ ?_ ?_ ?_ (zI_M h hu) rfl
  · have r1 : zup (zup (zup M 68 p (nI u)) 69 p 0) 41 u 2 (8 + u) = M (8 + u) := by rw [zup_ne _ _ _ (by omega), zup_ne _ _ _ (by omega), zup_ne _ _ _ (by omega)]
    have r2 : zup (zup (zup M 68 p (nI u)) 69 p 0) 41 u 2 (25 + u) = M (25 + u) := by rw [zup_ne _ _ _ (by omega), zup_ne _ _ _ (by omega), zup_ne _ _ _ (by omega)]
    refine ⟨fun _ => ?_, fun e => ?_, fun e => ?_, fun e => ?_, fun _ _ => ?_, fun _ _ => ?_, fun q hq => ?_, fun e => ?_⟩
    · rw [c14 u 6 (by decide) (by decide)]
      exact hT.1 (by rw [h1]; decide)
    · rw [h2u] at e; exact absurd e (by decide)
    · rw [h2u] at e; exact absurd e (by decide)
    · rw [h2u] at e; exact absurd e (by decide)
    · rw [r1]
      exact hT.2.2.2.2.1 (by rw [h1]; decide) (by rw [h1]; decide)
    · exact hT.2.2.2.2.2.1 (by rw [h1]; decide) (by rw [h1]; decide)
    · rw [r1, r2]; exact hT.2.2.2.2.2.2.1 q hq
    · rw [h2u] at e; exact absurd e (by decide)
  · refine zAr_s (u := u) (Nat.le_refl _) hA ?_ rfl (fun t ht htu => ⟨by rw [m41, if_neg htu], rfl, c14 t 14 (by decide) (by decide)⟩) (by rw [h2u]; decide)
    rw [zup_a (ztk_lo (by decide)).symm, zup_a (ztk_lo (by decide)).symm, zup_a (by decide)]
    have := hA.1
    omega
  · exact zOn_on hn hO hu hp hpp hm1 (by rw [h1]; decide) rfl (fun q _ => m68 q) (fun t ht htu => by rw [m41, if_neg htu]) h2u
  · intro q t hq ht e
    rw [m68] at e
    rw [m69]
    by_cases c : q = p
    · rw [if_pos c] at e
      have : u = t := nI_inj (by omega) (by omega) e
      rw [if_pos c, ← this, zup_at]
    · rw [if_neg c] at e
      have htu : t ≠ u := fun e9 => zOn_no hn hO (u := u) (by omega) (by rw [h1]; decide) q hq (by rw [← e9]; exact e)
      rw [if_neg c, zup_a (ztk_ne htu), zup_a (ztk_ne htu), zup_a (ztk_lo (by decide))]
      exact zI_D h q t hq ht e
  · refine zBk_s (zI_W h) (zI_B h) (fun t ht e => ?_) (fun _ _ e => e)
    rw [m41] at e
    by_cases c : t = u
    · rw [if_pos c] at e
      exact absurd e (by decide)
    · rw [if_neg c] at e
      exact ⟨e, rfl⟩
def zRg (n K c : Nat) (T : Nat → Int32) (C0 M0 C M : zSg) : Prop := zI n K C M ∧ zTq C0 M0 C M ∧ (∀ k, k < c → C 13 k = T k) ∧ (c : Int) ≤ (M 0 6).toInt ∧ zGd n M T c ∧ (∀ p, p < 3 → ¬ M 68 p = -1 → ∃ j, j < c ∧ M 68 p = T j)
theorem free_p {n K c : Nat} {T : Nat → Int32} {C0 M0 C M : zSg} (h : zRg n K c T C0 M0 C M) {k u : Nat} (hk : k < c) (hu : u < n) (hTk : T k = nI u) (h2 : ¬ M 41 u = 2) : ∃ p, p < ix (M 0 6) ∧ M 68 p = -1 := by
  obtain ⟨hI, _, _, hc, hG, hO⟩ := h
  have hn := zI_n hI
  have hP := zmW_p3 (zI_W hI)
  have hP0 := ztoInt (zmW_p (zI_W hI))
  refine Classical.byContradiction fun hx => ?_
  have hno : ∀ p, p < ix (M 0 6) → ∃ j, j < c ∧ j ≠ k ∧ M 68 p = T j := by
    intro p hp
    have hm : ¬ M 68 p = -1 := fun e => hx ⟨p, hp, e⟩
    obtain ⟨j, hj, ej⟩ := hO p (by omega) hm
    refine ⟨j, hj, fun e => ?_, ej⟩
    rw [e, hTk] at ej
    exact zOn_no hn (zI_O hI) (u := u) (by omega) h2 p (by omega) ej
  obtain ⟨f, hf⟩ : ∃ f : Nat → Nat, ∀ p, p < ix (M 0 6) → f p < c ∧ f p ≠ k ∧ M 68 p = T (f p) := ⟨fun p => if hp : p < ix (M 0 6) then Classical.choose (hno p hp) else 0, fun p hp => by
    simp only [dif_pos hp]
    exact Classical.choose_spec (hno p hp)⟩
  have := fb_holes (c - 1) (ix (M 0 6)) (fun p => if f p < k then f p else f p - 1) (fun p hp => by
    obtain ⟨a, b, _⟩ := hf p hp
    by_cases q : f p < k
    · simp only [if_pos q]; omega
    · simp only [if_neg q]; omega) (fun p r hpr hr e => by
    obtain ⟨a, b, ea⟩ := hf p (by omega)
    obtain ⟨a2, b2, ea2⟩ := hf r hr
    have e9 : f p = f r := by
      by_cases q : f p < k
      · by_cases q2 : f r < k
        · simp only [if_pos q, if_pos q2] at e; omega
        · simp only [if_pos q, if_neg q2] at e; omega
      · by_cases q2 : f r < k
        · simp only [if_neg q, if_pos q2] at e; omega
        · simp only [if_neg q, if_neg q2] at e; omega
    have e8 : M 68 p = M 68 r := by rw [ea, ea2, e9]
    have := (zI_O hI).2.2.1 p r (by omega) (by omega) e8 (fun e7 => hx ⟨p, by omega, e7⟩)
    omega)
  omega
theorem give_pick {n K : Nat} {C M : zSg} (h : zI n K C M) {u : Nat} (hf : ∃ p, p < ix (M 0 6) ∧ M 68 p = -1) : ∃ p, p < 3 ∧ p < ix (M 0 6) ∧ M 68 p = -1 ∧ mF_give M (nI u) = mF_give0 M (nI p) (nI u) ∧ cF_switch C u = cF_on1 C u p := by
  have hP := zmW_p3 (zI_W h)
  have h0 := zmW_p (zI_W h)
  have hE := zI_E h
  have i0 : (ix (0 : Int32)) = 0 := rfl
  have i1 : (ix (0 + 1 : Int32)) = 1 := by decide
  have i2 : (ix (0 + 1 + 1 : Int32)) = 2 := by decide
  obtain ⟨p, hp, em⟩ := hf
  have sw : cF_switch C u = if nI 0 < M 0 6 then (if M 68 0 = -1 then cF_on1 C u 0 else if nI 1 < M 0 6 then (if M 68 1 = -1 then cF_on1 C u 1 else if nI 2 < M 0 6 then (if M 68 2 = -1 then cF_on1 C u 2 else C) else C) else C) else C := by
    rw [← ze_pr hE, ← ze_on hE (p := 0) (by decide), ← ze_on hE (p := 1) (by decide), ← ze_on hE (p := 2) (by decide)]
    rfl
  have mg : mF_give M (nI u) = if M 68 0 = -1 then mF_give0 M (nI 0) (nI u) else if M 68 1 = -1 then mF_give0 M (nI 1) (nI u) else mF_give0 M (nI 2) (nI u) := by
    unfold mF_give
    rw [i0, i1]
    rfl
  rw [sw, mg]
  have l0 : nI 0 < M 0 6 := (lt_ix h0 (by decide)).mpr (by omega)
  rw [if_pos l0]
  by_cases c0 : M 68 0 = -1
  · rw [if_pos c0, if_pos c0]
    exact ⟨0, by decide, by omega, c0, rfl, rfl⟩
  · rw [if_neg c0, if_neg c0]
    have p0 : p ≠ 0 := fun e => c0 (e ▸ em)
    have l1 : nI 1 < M 0 6 := (lt_ix h0 (by decide)).mpr (by omega)
    rw [if_pos l1]
    by_cases c1 : M 68 1 = -1
    · rw [if_pos c1, if_pos c1]
      exact ⟨1, by decide, by omega, c1, rfl, rfl⟩
    · rw [if_neg c1, if_neg c1]
      have p1 : p ≠ 1 := fun e => c1 (e ▸ em)
      have p2 : p = 2 := by omega
      subst p2
      have l2 : nI 2 < M 0 6 := (lt_ix h0 (by decide)).mpr (by omega)
      rw [if_pos l2, if_pos em]
      exact ⟨2, by decide, hp, em, rfl, rfl⟩
theorem zRg_put {n K c k : Nat} {T : Nat → Int32} {C0 M0 C M : zSg} (h : zRg n K c T C0 M0 C M) (hk : k < c) : zRg n K c T C0 M0 (cB_put k C) (mB_give T k M) := by
  have hh := h
  obtain ⟨hI, hq, hT, hc, hG, hO⟩ := h
  have hn := zI_n hI
  obtain ⟨u, hu, eu, hs⟩ := hG k hk
  unfold cB_put mB_give
  rw [hT k hk, eu, cF_at_nI (by omega), zix (by omega)]
  dsimp only
  rw [zI_st hI (by omega)]
  rcases hs with h1 | h2
  · rw [h1, if_pos rfl, if_neg (by decide)]
    obtain ⟨p, hp, hpp, em, e1, e2⟩ := give_pick hI (u := u) (free_p hh hk hu eu (by rw [h1]; decide))
    rw [e1, e2]
    have g := zI_give hI hu hp hpp em h1
    have e3 : mF_give0 M (nI p) (nI u) = zup (zup (zup (zup M 68 p (nI u)) 69 p 0) 41 u 2) 0 11 (zup (zup (zup M 68 p (nI u)) 69 p 0) 41 u 2 0 11 + 1) := by
      unfold mF_give0
      rw [zix (by omega), zix (by omega)]
    have e4 : cF_on1 C u p = zup (zup (zup (zup C 12 p (nI u)) (ztk u) 5 2) (ztk u) 12 0) 3 0 (zup (zup (zup C 12 p (nI u)) (ztk u) 5 2) (ztk u) 12 0 3 0 + 1) := by
      unfold cF_on1
      rw [zI_U hI (by omega)]
    have q1 : zTq C0 M0 (zup (zup (zup C 12 p (nI u)) (ztk u) 5 2) (ztk u) 12 0) (zup (zup (zup M 68 p (nI u)) 69 p 0) 41 u 2) := zTq_of hq (zKc_ut (zKc_ut (zKc_up (zKc_r _) (by decide)))) (zKm_up (zKm_up (zKm_up (zKm_r _) (by omega)) (by omega)) (by omega))
    rw [e3, e4]
    refine ⟨zI_m (zI_q g (zCq_up (zCq_r _) _ (by unfold zQs; omega))) (zk_up (zk_r (zI_W g)) (f := 0) (j := 11) rfl (zr_any _)) (zMq_up (zMq_r _) _ (by unfold zQm; omega)), zTq_g q1, fun k2 hk2 => ?_, hc, fun k2 hk2 => ?_, fun r hr hm => ?_⟩
    · rw [zup_a (by decide), zup_a (ztk_lo (by decide)).symm, zup_a (ztk_lo (by decide)).symm, zup_a (by decide)]
      exact hT k2 hk2
    · obtain ⟨t, ht, et, hst⟩ := hG k2 hk2
      refine ⟨t, ht, et, ?_⟩
      show (if t = u then 2 else M 41 t) = 1 ∨ (if t = u then 2 else M 41 t) = 2
      by_cases e : t = u
      · rw [if_pos e]; exact Or.inr rfl
      · rw [if_neg e]; exact hst
    · have e68 : zup (zup (zup (zup M 68 p (nI u)) 69 p 0) 41 u 2) 0 11 (zup (zup (zup M 68 p (nI u)) 69 p 0) 41 u 2 0 11 + 1) 68 r = if r = p then nI u else M 68 r := rfl
      rw [e68] at hm ⊢
      by_cases e : r = p
      · rw [if_pos e]
        exact ⟨k, hk, eu.symm⟩
      · rw [if_neg e] at hm ⊢
        exact hO r hr hm
  · rw [h2, if_neg (by decide), if_pos rfl]
    exact hh
theorem zRg_puts {n K c : Nat} {T : Nat → Int32} {C0 M0 C M : zSg} (h : zRg n K c T C0 M0 C M) : ∀ m, m ≤ c → zRg n K c T C0 M0 ((List.range m).foldl (fun s k => cB_put k s) C) (mF_gives T m M) := by
  intro m
  induction m with
  | zero => intro _; exact h
  | succ m ih =>
    intro hm
    unfold mF_gives
    rw [List.range_succ, List.foldl_append, List.foldl_append]
    exact zRg_put (ih (by omega)) (by omega)
theorem zRg_gok {n K c : Nat} {T : Nat → Int32} {C0 M0 C M : zSg} (h : zRg n K c T C0 M0 C M) : mF_gok T c M = true := by
  unfold mF_gok
  rw [List.all_eq_true]
  intro k hk
  have hk := List.mem_range.mp hk
  have hR := zRg_puts h k (by omega)
  have hn := zI_n hR.1
  obtain ⟨u, hu, eu, hs⟩ := hR.2.2.2.2.1 k hk
  simp only [Bool.or_eq_true, beq_iff_eq]
  rw [eu, zix (by omega)]
  by_cases h2 : mF_gives T k M 41 u = 2
  · exact Or.inl (Or.inl (Or.inl h2))
  · obtain ⟨p, hp, em⟩ := free_p hR hk hu eu h2
    have hP := zmW_p3 (zI_W hR.1)
    have : p = 0 ∨ p = 1 ∨ p = 2 := by omega
    rcases this with rfl | rfl | rfl
    · exact Or.inl (Or.inl (Or.inr em))
    · exact Or.inl (Or.inr em)
    · exact Or.inr em
theorem zI_share {n K f : Nat} {C M C0 M0 : zSg} (h : zI n K C M) (q : zTq C0 M0 C M) (hf : 16 < f) : ∃ M3, mF_take f M = some M3 ∧ zI n K (cF_share C) M3 ∧ zTq C0 M0 (cF_share C) M3 := by
  have hn := zI_n h
  have hD : zI n K (cF_lent C) M := zI_q h (zLf_q (cF_lent_fr C))
  obtain ⟨c, T, e1, e2, e3, hc, hcP, hT, hG⟩ := takes_eq hD (fun t ht => lent_eq h ht) hf
  have hI : zI n K (cF_takes (cF_lent C)).1 M := zI_q hD (z34_q e3)
  have hQ : zTq C0 M0 (cF_takes (cF_lent C)).1 M := zTq_of q (zKc_34 (zKc_lf (zKc_r C) (cF_lent_fr C)) e3) (zKm_r M)
  have hs : cF_share C = (List.range c).foldl (fun s k => cB_put k s) ((List.range 3).foldl (fun s k => cB_drop (nI c) k s) (cF_takes (cF_lent C)).1) := by
    unfold cF_share
    rw [e2]
  have hm : mF_take f M = if mF_gok T c (mF_keep T c M) = true then some (mF_gives T c (mF_keep T c M)) else none := by
    unfold mF_take
    rw [e1]
  obtain ⟨k1, k2, k3, k4, k5, k6⟩ := zI_keep hI hQ hc hT
  rw [hs, hm]
  generalize (List.range 3).foldl (fun s k => cB_drop (nI c) k s) (cF_takes (cF_lent C)).1 = C1 at k1 k2 k3 ⊢
  have hR0 : zRg n K c T C0 M0 C1 (mF_keep T c M) := by
    refine ⟨k1, k2, k3, by rw [k4 0 6 rfl]; exact hcP, fun k hk => ?_, k6⟩
    obtain ⟨t, ht, et, hs⟩ := hG k hk
    exact ⟨t, ht, et, k5 t hs⟩
  generalize mF_keep T c M = M1 at hR0 ⊢
  have hfin := zRg_puts hR0 c (Nat.le_refl _)
  rw [if_pos (zRg_gok hR0)]
  exact ⟨_, rfl, hfin.1, hfin.2.1⟩
