/-! The calls: as many processors as that -/
theorem clr_at (A : zSg) : (∀ p, p < 3 → cF_clear A 12 p = -1) ∧ (∀ t, t < 16 → cF_clear A (ztk t) 5 = if A (ztk t) 5 = 2 then 1 else A (ztk t) 5) ∧ ∀ x y, ¬ (x = 12 ∧ y < 3) → ¬ (y = 5 ∧ 15 ≤ x ∧ (x - 15) % 5 = 0) → cF_clear A x y = A x y := by
  have hA1 : ∀ x y, ((List.range 3).foldl (fun s k => zup s 12 k (-1)) A) x y = if x = 12 ∧ y < 3 then -1 else A x y := fun x y => fill_at 12 (-1) A x y 3
  unfold cF_clear
  generalize (List.range 3).foldl (fun s k => zup s 12 k (-1)) A = A1 at hA1 ⊢
  have key : (∀ t, t < 16 → (List.range 16).foldl (fun s k => cB_clr k s) A1 (ztk t) 5 = if A1 (ztk t) 5 = 2 then 1 else A1 (ztk t) 5) ∧ ∀ x y, ¬ (y = 5 ∧ 15 ≤ x ∧ (x - 15) % 5 = 0) → (List.range 16).foldl (fun s k => cB_clr k s) A1 x y = A1 x y := by
    have := q_fold (P := fun m s => (∀ t, t < m → s (ztk t) 5 = if A1 (ztk t) 5 = 2 then 1 else A1 (ztk t) 5) ∧ (∀ t, m ≤ t → s (ztk t) 5 = A1 (ztk t) 5) ∧ ∀ x y, ¬ (y = 5 ∧ 15 ≤ x ∧ (x - 15) % 5 = 0) → s x y = A1 x y) (fun k s => cB_clr k s) 16 (s := A1) ⟨fun t ht => absurd ht (Nat.not_lt_zero t), fun _ _ => rfl, fun _ _ _ => rfl⟩ (fun k s hk hs => by
      obtain ⟨s1, s2, s3⟩ := hs
      have e := s2 k (Nat.le_refl k)
      show (∀ t, t < k + 1 → cB_clr k s (ztk t) 5 = _) ∧ (∀ t, k + 1 ≤ t → cB_clr k s (ztk t) 5 = _) ∧ ∀ x y, _ → cB_clr k s x y = _
      unfold cB_clr
      by_cases c : s (ztk k) 5 = 2
      · rw [if_pos c]
        refine ⟨fun t ht => ?_, fun t ht => ?_, fun x y hq => ?_⟩
        · by_cases g : t = k
          · subst g
            rw [zup_at, if_pos (by rw [← e]; exact c)]
          · rw [zup_a (ztk_ne g)]
            exact s1 t (by omega)
        · rw [zup_a (ztk_ne (by omega))]
          exact s2 t (by omega)
        · rw [zup_o (fun e9 => hq ⟨e9.2, by rw [e9.1]; unfold ztk; omega, by rw [e9.1]; unfold ztk; omega⟩)]
          exact s3 x y hq
      · rw [if_neg c]
        refine ⟨fun t ht => ?_, fun t ht => s2 t (by omega), s3⟩
        by_cases g : t = k
        · subst g
          rw [e, if_neg (by rw [← e]; exact c)]
        · exact s1 t (by omega))
    exact ⟨this.1, this.2.2⟩
  refine ⟨fun p hp => ?_, fun t ht => ?_, fun x y h1 h2 => ?_⟩
  · rw [key.2 12 p (by omega), hA1, if_pos ⟨rfl, hp⟩]
  · have e : A1 (ztk t) 5 = A (ztk t) 5 := by rw [hA1, if_neg (by unfold ztk; omega)]
    rw [key.1 t ht, e]
  · rw [key.2 x y h2, hA1, if_neg h1]
theorem sp_at {n : Nat} {M : zSg} (hn : n ≤ 16) (hO : zOn n M) : (∀ p, p < 3 → ((List.range 3).foldl (fun s i => mB_sp i s) M) 68 p = -1) ∧ (∀ t, t < 16 → ((∃ p, p < 3 ∧ M 68 p = nI t) → ((List.range 3).foldl (fun s i => mB_sp i s) M) 41 t = 1) ∧ ((¬ ∃ p, p < 3 ∧ M 68 p = nI t) → ((List.range 3).foldl (fun s i => mB_sp i s) M) 41 t = M 41 t)) ∧ ∀ f j, f ≠ 68 → f ≠ 41 → ((List.range 3).foldl (fun s i => mB_sp i s) M) f j = M f j := by
  have := q_fold (P := fun m s => (∀ p, p < m → s 68 p = -1) ∧ (∀ p, m ≤ p → s 68 p = M 68 p) ∧ (∀ t, t < 16 → ((∃ p, p < m ∧ M 68 p = nI t) → s 41 t = 1) ∧ ((¬ ∃ p, p < m ∧ M 68 p = nI t) → s 41 t = M 41 t)) ∧ ∀ f j, f ≠ 68 → f ≠ 41 → s f j = M f j) (fun k s => mB_sp k s) 3 (s := M) ⟨fun t ht => absurd ht (Nat.not_lt_zero t), fun _ _ => rfl, fun t ht => ⟨fun ⟨p, hp, _⟩ => absurd hp (Nat.not_lt_zero p), fun _ => rfl⟩, fun _ _ _ _ => rfl⟩ (fun k s hk hs => by
    obtain ⟨s1, s2, s3, s4⟩ := hs
    have e := s2 k (Nat.le_refl k)
    show (∀ p, p < k + 1 → mB_sp k s 68 p = -1) ∧ (∀ p, k + 1 ≤ p → mB_sp k s 68 p = _) ∧ (∀ t, t < 16 → (_ → mB_sp k s 41 t = _) ∧ (_ → mB_sp k s 41 t = _)) ∧ ∀ f j, _ → _ → mB_sp k s f j = _
    unfold mB_sp
    by_cases c : s 68 k = -1
    · rw [if_pos c]
      refine ⟨fun p hp => ?_, fun p hp => s2 p (by omega), fun t ht => ?_, s4⟩
      · by_cases g : p = k
        · subst g; exact c
        · exact s1 p (by omega)
      · have hiff : (∃ p, p < k ∧ M 68 p = nI t) ↔ ∃ p, p < k + 1 ∧ M 68 p = nI t := ⟨fun ⟨p, hp, h9⟩ => ⟨p, by omega, h9⟩, fun ⟨p, hp, h9⟩ => by
          by_cases g : p = k
          · subst g
            rw [← e, c] at h9
            exact absurd h9.symm (nI_nm t ht)
          · exact ⟨p, by omega, h9⟩⟩
        exact ⟨fun g => (s3 t ht).1 (hiff.mpr g), fun g => (s3 t ht).2 (fun g9 => g (hiff.mp g9))⟩
    · rw [if_neg c]
      obtain ⟨u, hu, eu, hsu⟩ := hO.2.1 k hk (by rw [← e]; exact c)
      have hxu : ix (s 68 k) = u := by rw [e, eu]; exact zix (by omega)
      rw [hxu]
      refine ⟨fun p hp => ?_, fun p hp => ?_, fun t ht => ?_, fun f j h68 h41 => ?_⟩
      · by_cases g : p = k
        · subst g; exact zup_at _ _ _ _
        · rw [zup_b g, zup_a (by decide)]; exact s1 p (by omega)
      · rw [zup_b (by omega), zup_a (by decide)]; exact s2 p (by omega)
      · rw [zup_a (by decide)]
        by_cases g : t = u
        · subst g
          rw [zup_at]
          exact ⟨fun _ => rfl, fun g9 => absurd ⟨k, by omega, eu⟩ g9⟩
        · rw [zup_b g]
          have hiff : (∃ p, p < k ∧ M 68 p = nI t) ↔ ∃ p, p < k + 1 ∧ M 68 p = nI t := ⟨fun ⟨p, hp, h9⟩ => ⟨p, by omega, h9⟩, fun ⟨p, hp, h9⟩ => by
            by_cases g2 : p = k
            · subst g2
              exact absurd (nI_inj (by omega) (by omega) (h9.symm.trans eu)) g
            · exact ⟨p, by omega, h9⟩⟩
          exact ⟨fun g3 => (s3 t ht).1 (hiff.mpr g3), fun g3 => (s3 t ht).2 (fun g9 => g3 (hiff.mp g9))⟩
      · rw [zup_a h68, zup_a h41]
        exact s4 f j h68 h41)
  exact ⟨this.1, this.2.2.1, this.2.2.2⟩
theorem zI_sp {n K : Nat} {C M : zSg} {p : Int32} (h : zI n K C M) (hp : 1 ≤ p.toInt ∧ p.toInt ≤ 3) : zI n K (zup (cF_clear C) 1 0 p) (zup ((List.range 3).foldl (fun s i => mB_sp i s) M) 0 6 p) := by
  have hn := zI_n h
  obtain ⟨k1, k2, k3⟩ := clr_at C
  obtain ⟨m1, m2, m3⟩ := sp_at hn (zI_O h)
  have hst : ∀ t, t < 16 → (List.range 3).foldl (fun s i => mB_sp i s) M 41 t = if M 41 t = 2 then 1 else M 41 t := by
    intro t ht
    by_cases c : M 41 t = 2
    · have htn : t < n := zI_lt h ht (by rw [c]; decide)
      rw [if_pos c]
      exact (m2 t ht).1 ((zI_O h).1 t htn c)
    · rw [if_neg c]
      refine (m2 t ht).2 ?_
      rintro ⟨q, hq, eq⟩
      obtain ⟨u, hu, eu, hs⟩ := (zI_O h).2.1 q hq (by rw [eq]; exact nI_nm t ht)
      rw [← nI_inj ht (by omega) (eq.symm.trans eu)] at hs
      exact c hs
  have hW1 : zmW ((List.range 3).foldl (fun s i => mB_sp i s) M) := (zk_fold mB_sp (fun k s hs => zk_sp1 hs k) _ _ (zk_r (zI_W h))).1
  have hW2 := zmW_up hW1 (f := 0) (j := 6) (v := p) (show zr1 p 1 3 from hp)
  have w41 : ∀ t, t < 16 → zup ((List.range 3).foldl (fun s i => mB_sp i s) M) 0 6 p 41 t = if M 41 t = 2 then 1 else M 41 t := fun t ht => (zup_a (by decide)).trans (hst t ht)
  have w68 : ∀ q, q < 3 → zup ((List.range 3).foldl (fun s i => mB_sp i s) M) 0 6 p 68 q = -1 := fun q hq => (zup_a (by decide)).trans (m1 q hq)
  have wo : ∀ f j, f ≠ 68 → f ≠ 41 → ¬ (f = 0 ∧ j = 6) → zup ((List.range 3).foldl (fun s i => mB_sp i s) M) 0 6 p f j = M f j := fun f j h1 h2 h3 => (zup_o h3).trans (m3 f j h1 h2)
  have w06 : zup ((List.range 3).foldl (fun s i => mB_sp i s) M) 0 6 p 0 6 = p := zup_at _ _ _ _
  have d5 : ∀ t, t < 16 → zup (cF_clear C) 1 0 p (ztk t) 5 = if C (ztk t) 5 = 2 then 1 else C (ztk t) 5 := fun t ht => (zup_a (by unfold ztk; omega)).trans (k2 t ht)
  have d12 : ∀ q, q < 3 → zup (cF_clear C) 1 0 p 12 q = -1 := fun q hq => (zup_a (by decide)).trans (k1 q hq)
  have do_ : ∀ x y, ¬ (x = 12 ∧ y < 3) → ¬ (y = 5 ∧ 15 ≤ x ∧ (x - 15) % 5 = 0) → ¬ (x = 1 ∧ y = 0) → zup (cF_clear C) 1 0 p x y = C x y := fun x y h1 h2 h3 => (zup_o h3).trans (k3 x y h1 h2)
  have d10 : zup (cF_clear C) 1 0 p 1 0 = p := zup_at _ _ _ _
  generalize zup (cF_clear C) 1 0 p = C' at d5 d12 do_ d10 ⊢
  generalize zup ((List.range 3).foldl (fun s i => mB_sp i s) M) 0 6 p = M' at hW2 w41 w68 wo w06 ⊢
  have ct : ∀ t y, y ≠ 5 → C' (ztk t) y = C (ztk t) y := fun t y hy => do_ _ _ (by unfold ztk; omega) (fun e => hy e.1) (by unfold ztk; omega)
  have cy : ∀ t y, C' (ztk t + 4) y = C (ztk t + 4) y := fun t y => do_ _ _ (by unfold ztk; omega) (by unfold ztk; omega) (by unfold ztk; omega)
  have x41 : ∀ t (x : Int32), t < 16 → ¬ x = 2 → ¬ x = 1 → (M' 41 t = x ↔ M 41 t = x) := fun t x ht h2 h1 => by
    rw [w41 t ht]
    by_cases c : M 41 t = 2
    · rw [if_pos c, c]
      exact ⟨fun e => absurd e.symm h1, fun e => absurd e.symm h2⟩
    · rw [if_neg c]
  have hE : zE n C' M' := by
    intro f j hd
    have hE0 := zI_E h f j hd
    by_cases c68 : f = 68
    · subst c68
      have hj : j < 3 := by unfold zdm at hd; omega
      show C' 12 j = _
      rw [d12 j hj, w68 j hj]
    · by_cases c41 : f = 41
      · subst c41
        have hj : j < 16 := by unfold zdm at hd; omega
        show C' (ztk j) 5 = _
        rw [d5 j hj, w41 j hj, zI_st h hj]
      · by_cases c06 : f = 0 ∧ j = 6
        · obtain ⟨rfl, rfl⟩ := c06
          show C' 1 0 = _
          rw [d10, w06]
        · rw [wo f j c68 c41 c06, ← hE0]
          have e1 := zps_ph hn hd
          refine do_ _ _ (fun e => ?_) (fun e => ?_) (fun e => ?_)
          · rw [e.1] at e1
            exact c68 (congrArg Prod.fst e1).symm
          · have e2 : zps (zph f j).1 5 = (41, ((zph f j).1 - 15) / 5) := by
              unfold zps
              rw [if_pos e.2.1, e.2.2]
              rfl
            rw [e.1, e2] at e1
            exact c41 (congrArg Prod.fst e1).symm
          · rw [e.1, e.2] at e1
            exact c06 ⟨(congrArg Prod.fst e1).symm, (congrArg Prod.snd e1).symm⟩
  obtain ⟨h1, h2, h3, h4, h5, h6, h7, h8, h9, h10, h11, h12⟩ := h
  refine ⟨⟨h1.1, by rw [wo 0 15 (by decide) (by decide) (by omega)]; exact h1.2⟩, hE, hW2, fun t ht => by rw [ct t 0 (by decide)]; exact h4 t ht, ?_, fun t ht => ?_, ?_, ?_, fun q t hq ht e => ?_, fun t ht e => ?_, fun t ht => by rw [wo 47 t (by decide) (by decide) (by omega)]; exact h11 t ht, by rw [wo 0 1 (by decide) (by decide) (by omega)]; exact h12⟩
  · refine ⟨fun t g1 g2 => ?_, fun t ht => by rw [wo 5 t (by decide) (by decide) (by omega)]; exact h5.2 t ht⟩
    have := h5.1 t g1 g2
    refine ⟨by rw [w41 t g2, this.1]; decide, by rw [wo 6 t (by decide) (by decide) (by omega)]; exact this.2.1, fun j hj => ?_⟩
    rw [wo (8 + t) j (by omega) (by omega) (by omega), wo (25 + t) j (by omega) (by omega) (by omega)]
    exact this.2.2 j hj
  · obtain ⟨a1, a2, a3, a4, a5, a6, a7, a8⟩ := h6 t ht
    have q42 := wo 42 t (by decide) (by decide) (by omega)
    have q43 := wo 43 t (by decide) (by decide) (by omega)
    have q46 := wo 46 t (by decide) (by decide) (by omega)
    have q48 := wo 48 t (by decide) (by decide) (by omega)
    have q49 := wo 49 t (by decide) (by decide) (by omega)
    have q5 := wo 5 t (by decide) (by decide) (by omega)
    have q6 := wo 6 t (by decide) (by decide) (by omega)
    have q8 := fun x => wo (8 + t) x (by omega) (by omega) (by omega)
    have q25 := fun x => wo (25 + t) x (by omega) (by omega) (by omega)
    have q52 := fun x => wo (52 + t) x (by omega) (by omega) (by omega)
    have x0 := x41 t 0 ht (by decide) (by decide)
    have x3 := x41 t 3 ht (by decide) (by decide)
    have x4 := x41 t 4 ht (by decide) (by decide)
    have x5 := x41 t 5 ht (by decide) (by decide)
    have x6 := x41 t 6 ht (by decide) (by decide)
    refine ⟨?_, ?_, ?_, ?_, ?_, ?_, ?_, ?_⟩
    · rw [x6, ct t 6 (by decide), q42]; exact a1
    · rw [x6, q42, q6]; exact a2
    · rw [x3, ct t 13 (by decide), q48]; exact a3
    · rw [x4, x5, ct t 13 (by decide), q49, q42, q8]; exact a4
    · rw [x0, x6, q42, q6, q8]; exact a5
    · rw [x0, x6, q43, q5]; exact a6
    · rw [q6]
      intro s hs
      rw [q8, q25]; exact a7 s hs
    · rw [x0, q42, q43, q46, ct t 9 (by decide)]
      intro g0
      obtain ⟨b1, b2, b3, b4, b5, b6, b7⟩ := a8 g0
      exact ⟨b1, b2, b3, b4, fun j hj => ⟨by rw [cy]; exact (b5 j hj).1, by rw [q52]; exact (b5 j hj).2⟩, by rw [cy]; exact b6, by rw [cy]; exact b7⟩
  · obtain ⟨a1, a2, a3, a4⟩ := h7
    have c012 : C' 0 12 = C 0 12 := do_ 0 12 (by omega) (by omega) (by omega)
    have m010 : M' 0 10 = M 0 10 := wo 0 10 (by decide) (by decide) (by omega)
    refine ⟨by rw [c012]; exact a1, by rw [m010]; exact a2, fun t ht hs => ?_, fun t u ht hu hs hs2 => ?_⟩
    · rw [x41 t 4 (by omega) (by decide) (by decide), x41 t 5 (by omega) (by decide) (by decide)] at hs
      rw [c012, m010, wo 50 t (by decide) (by decide) (by omega), ct t 14 (by decide)]
      exact a3 t ht hs
    · rw [x41 t 4 (by omega) (by decide) (by decide), x41 t 5 (by omega) (by decide) (by decide)] at hs
      rw [x41 u 4 (by omega) (by decide) (by decide), x41 u 5 (by omega) (by decide) (by decide)] at hs2
      rw [wo 50 t (by decide) (by decide) (by omega), wo 50 u (by decide) (by decide) (by omega), ct t 14 (by decide), ct u 14 (by decide)]
      exact a4 t u ht hu hs hs2
  · refine ⟨fun t ht hs => ?_, fun q hq hm => absurd (w68 q hq) hm, fun q q2 hq hq2 e hm => absurd (w68 q hq) hm, fun q hq _ => w68 q hq⟩
    rw [w41 t (by omega)] at hs
    by_cases c : M 41 t = 2
    · rw [if_pos c] at hs; exact absurd hs (by decide)
    · rw [if_neg c] at hs; exact absurd hs c
  · rw [w68 q hq] at e
    exact absurd e.symm (nI_nm t (by omega))
  · rw [x41 t 4 (by omega) (by decide) (by decide)] at e
    rw [wo 49 t (by decide) (by decide) (by omega), wo 101 _ (by decide) (by decide) (by omega)]
    exact h10 t ht e
theorem c_setProcessors {n K : Nat} {A M : zSg} (h : zQR n K A M) (p : Int32) : zAg LA K (cP_setProcessors A p) A (mP_setProcessors M p) := by
  have h0 := zQR_0 h 0
  have hn := zI_n h.1
  rcases is_cases p 1 3 with ⟨a1, a2, a3, a4, a5⟩ | ⟨a1, a2⟩
  · have g := zI_sp h0.1 (show 1 ≤ p.toInt ∧ p.toInt ≤ 3 from ⟨a4, a5⟩)
    obtain ⟨k1, k2, k3⟩ := clr_at A
    obtain ⟨m1, m2, m3⟩ := sp_at hn (zI_O h0.1)
    have hc : zKc A (zup (cF_clear A) 1 0 p) := zKc_up (fun x y hq => k3 x y (by omega) (by omega)) (by decide)
    have hk : zKm (zup M 0 0 0) (zup ((List.range 3).foldl (fun s i => mB_sp i s) (zup M 0 0 0)) 0 6 p) := zKm_up ⟨fun j _ => m3 0 j (by decide) (by decide), fun f j g1 g2 => m3 f j (by omega) (by omega)⟩ (by omega)
    exact ag_c ⟨g, zTr_k h0.2 hc hk⟩ ((hk.1 0 (by decide)).trans (zup_at M 0 0 0)) (v := A 1 0) (by unfold cP_setProcessors; rw [if_neg a2, if_neg a3]) (by unfold mP_setProcessors; rw [if_pos a1]) (ze_pr (zI_E h0.1))
  · refine ag_x h0 (E := eIA) (v := 1) ?_ (by unfold mP_setProcessors; rw [if_neg (ff a1)]) (by decide) (by decide)
    unfold cP_setProcessors
    rcases a2 with a2 | ⟨a2, a3⟩
    · rw [if_pos a2]
    · rw [if_neg a2, if_pos a3]
