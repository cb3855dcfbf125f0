/-! .. a processor's part of a tick, and all of them -/
theorem j_goOn {n m u : Nat} (hu : u < n) (hm : m < 3) : ∀ (f B K : Nat) (C M : zSg) (r : Bool × zSg), zI n K C M → K + f ≤ 200000 → zJ n B 0 true m (0, 6) M → (M 41 u = 2 → M 68 m = nI u) → B + f + 6 ≤ 2000000000 → mF_goOn f M (nI u) (nI m) = some r →
    zJ n (B + f + 6) (if r.1 = true then 1 else 0) true (m + 1) (0, 6) r.2 ∧ ∀ j, r.2 71 j = M 71 j
  | 0, _, _, _, _, _, _, _, _, _, _, h => by cases h
  | f + 1, B, K, C, M, r, hI, hK, h, h68, hB, e => by
    have hn := zI_n hI
    rw [mF_goOn, zix (show u < 2147483648 by omega)] at e
    by_cases c1 : M 41 u = 2
    · rw [if_pos c1] at e
      have hum := h68 c1
      by_cases c2 : 0 ≤ (M 42 u).toInt ∧ (M 42 u).toInt < 16
      · rw [if_pos c2] at e
        by_cases c3 : M (8 + u) (ix (M 42 u)) = 0
        · rw [if_pos c3] at e
          cases e
          refine ⟨j_le (j_run hI (by omega) h (by omega) hu hm hum) (by omega), fun j => ?_⟩
          exact (km_runOne (zI_W hI) (by omega) hm (zKm_r M)).2 71 j (by decide) (by decide)
        · rw [if_neg c3] at e
          by_cases c4 : zok6 (M (8 + u) (ix (M 42 u))) (M (25 + u) (ix (M 42 u))) = true
          · rw [if_pos c4] at e
            have hno : ∀ p, p < m → ¬ M 68 p = nI u := fun p hp e9 => by
              have := (zI_O hI).2.2.1 p m (by omega) hm (e9.trans hum.symm) (by rw [e9]; exact nI_nm u (by omega))
              omega
            have hD := j_do hn (zI_ix hI) h (by omega) hu c1 hno c4
            have k71 : ∀ j, mF_doStep M (nI u) (M (8 + u) (ix (M 42 u))) (M (25 + u) (ix (M 42 u))) 71 j = M 71 j := fun j => (km_doStep (zKm_r M) _ _ _).2 71 j (by decide) (by decide)
            rcases zI_do hI (by omega) hu hm hum rfl c4 c3 with ⟨g1, g2, g3, g4⟩ | ⟨g1, g2⟩
            · obtain ⟨a, b⟩ := j_goOn hu hm f (B + 1) K _ _ r g2 (by omega) hD (fun _ => g3) (by omega) e
              refine ⟨?_, fun j => (b j).trans (k71 j)⟩
              rw [show B + (f + 1) + 6 = B + 1 + f + 6 by omega]
              exact a
            · obtain ⟨a, b⟩ := j_goOn hu hm f (B + 1) (K + 1) _ _ r g2 (by omega) hD (fun e9 => absurd e9 g1) (by omega) e
              refine ⟨?_, fun j => (b j).trans (k71 j)⟩
              rw [show B + (f + 1) + 6 = B + 1 + f + 6 by omega]
              exact a
          · rw [if_neg c4] at e
            cases e
      · rw [if_neg c2] at e
        cases e
    · rw [if_neg c1] at e
      cases e
      exact ⟨j_le (j_m1 h) (by omega), fun _ => rfl⟩
/-- within a tick: m processors are through -/
def zJL (n B m : Nat) (M : zSg) : Prop := zJ n B 0 true m (0, 6) M ∧ (∀ q, m ≤ q → q < 3 → M 71 q = -1) ∧ ∀ p, p < 3 → M 71 p = -1 ∨ ∃ t, t < n ∧ M 71 p = nI t
theorem zsm_le {M : zSg} : ∀ n, (∀ t, t < n → zc M t 0 ≤ 200001) → zsm M n ≤ 200001 * n
  | 0, _ => Int.le_refl _
  | n + 1, h => by
    have h1 := zsm_le n (fun t ht => h t (by omega))
    have h2 := h n (by omega)
    show zsm M n + zc M n 0 ≤ 200001 * ((n + 1 : Nat) : Int)
    omega
theorem zsm_ge {M : zSg} : ∀ n, (∀ t, t < n → 0 ≤ zc M t 0) → 0 ≤ zsm M n
  | 0, _ => Int.le_refl _
  | n + 1, h => by
    have h1 := zsm_ge n (fun t ht => h t (by omega))
    have h2 := h n (by omega)
    show 0 ≤ zsm M n + zc M n 0
    omega
theorem j_sm {n B m : Nat} {d : Int} {o : Bool} {w : Nat × Nat} {M : zSg} (hn : n ≤ 16) (h : zJ n B d o m w M) (hc : (M 0 1).toInt ≤ 200000) : 0 ≤ zsm M n ∧ zsm M n ≤ 3200016 := by
  have h1 := zsm_le (M := M) n (fun t ht => by
    obtain ⟨a, _, _, e⟩ := h.1 t ht
    rcases e with e | ⟨e, _⟩ <;> omega)
  have h2 := zsm_ge (M := M) n (fun t ht => (h.1 t ht).1.1)
  omega
theorem aft_at (b : Bool) (k : Nat) (t : Int32) (M : zSg) : (∀ f j, ¬ (f = 71 ∧ j = k) → ¬ (f = 0 ∧ (j = 12 ∨ j = 13 ∨ j = 14)) → mT_aft b k t M f j = M f j) ∧ mT_aft b k t M 71 k = (if b = true then t else M 71 k) ∧ mT_aft b k t M 0 13 = M 0 13 + (if (if b = true then t else M 71 k) = -1 then 0 else 1) := by
  unfold mT_aft
  try dsimp only
  rw [show 71 + ix (0 : Int32) = 71 from rfl]
  have e1 : (if b = true then zup M 71 k t else M) 71 k = if b = true then t else M 71 k := by
    cases b
    · rfl
    · exact zup_at M 71 k t
  have e2 : ∀ f j, ¬ (f = 71 ∧ j = k) → (if b = true then zup M 71 k t else M) f j = M f j := fun f j h => by
    cases b
    · rfl
    · exact zup_o h
  generalize (if b = true then zup M 71 k t else M) = M1 at e1 e2 ⊢
  refine ⟨fun f j h1 h2 => ?_, ?_, ?_⟩
  · rw [zup_o (by omega), zup_o (by omega), zup_o (by omega)]
    exact e2 f j h1
  · rw [zup_a (by decide), zup_a (by decide), zup_a (by decide)]
    exact e1
  · rw [zup_b (by decide), zup_at, zup_b (by decide), zup_a (by decide), e1, e2 0 13 (by omega)]
theorem j_aft {n B m : Nat} {b : Bool} {t : Int32} {M0 M : zSg} (hn : n ≤ 16) (hm : m < 3) (h : zJ n B (if b = true then 1 else 0) true (m + 1) (0, 6) M) (h71 : ∀ j, M 71 j = M0 71 j) (hc : (M 0 1).toInt ≤ 200000) (hL : (∀ q, m ≤ q → q < 3 → M0 71 q = -1) ∧ ∀ p, p < 3 → M0 71 p = -1 ∨ ∃ t, t < n ∧ M0 71 p = nI t) (ht : b = true → ∃ u, u < n ∧ t = nI u) : zJL n B (m + 1) (mT_aft b m t M) := by
  obtain ⟨v, v71, v13⟩ := aft_at b m t M
  have hs := j_sm hn h hc
  obtain ⟨h1, h2, h3, h4, h5, h6⟩ := h
  have y : ∀ f j, f ≠ 71 → ¬ (f = 0 ∧ (j = 12 ∨ j = 13 ∨ j = 14)) → mT_aft b m t M f j = M f j := fun f j a c => v f j (fun e => a e.1) c
  have e41 : ∀ t', mT_aft b m t M 41 t' = M 41 t' := fun t' => y 41 t' (by decide) (by omega)
  have e49 : ∀ t', mT_aft b m t M 49 t' = M 49 t' := fun t' => y 49 t' (by decide) (by omega)
  have ec : ∀ t' j, t' < 16 → zc (mT_aft b m t M) t' j = zc M t' j := fun t' j ht' => by
    unfold zc
    rw [y (52 + t') j (by omega) (by omega)]
  have g71 : ∀ p, p < 3 → mT_aft b m t M 71 p = -1 ∨ ∃ t', t' < n ∧ mT_aft b m t M 71 p = nI t' := by
    intro p hp
    by_cases c : p = m
    · rw [c, v71]
      cases b
      · exact Or.inl ((h71 m).trans (hL.1 m (Nat.le_refl m) hm))
      · exact Or.inr (ht rfl)
    · rw [v 71 p (by omega) (by omega), h71]
      exact hL.2 p hp
  refine ⟨⟨fun t' ht' => ?_, jl_mv h2 (fun q _ => y 101 q (by decide) (by omega)) (fun t' _ => Or.inl ⟨e41 t', e49 t'⟩), je_mv h3 (fun q _ => y 102 q (by decide) (by omega)) (fun t' _ e => ⟨by rw [← e41]; exact e, e49 t'⟩), js_mv h4 (y 0 9 (by decide) (by omega)) (fun t' _ => y 45 t' (by decide) (by omega)) (fun t' _ a b => by rw [e41] at a b; exact ⟨a, b⟩), ?_, Or.inr g71⟩, fun q hq h3' => ?_, g71⟩
  · obtain ⟨a, b', c, e⟩ := h1 t' ht'
    rw [ec t' 0 (by omega), ec t' 1 (by omega), ec t' 2 (by omega), ec t' 3 (by omega), ec t' 4 (by omega), e41, y 0 1 (by decide) (by omega)]
    exact ⟨a, b', c, e.elim Or.inl (fun e => Or.inr ⟨e.1, zX_mv e.2 (fun e9 => by rw [e41]; exact e9) (fun p _ => y 68 p (by decide) (by omega))⟩)⟩
  · rw [zsm_cg n (fun t' ht' => ec t' 0 (by omega)), v13]
    cases b
    · have e9 : M 71 m = -1 := (h71 m).trans (hL.1 m (Nat.le_refl m) hm)
      show zsm M n = (M 0 13 + if M 71 m = -1 then 0 else 1).toInt + 0
      rw [if_pos e9, Int32.add_zero]
      exact h5
    · obtain ⟨u, hu, eu⟩ := ht rfl
      show zsm M n = (M 0 13 + if t = -1 then 0 else 1).toInt + 0
      have h5' : zsm M n = (M 0 13).toInt + 1 := h5
      rw [if_neg (by rw [eu]; exact nI_nm u (by omega))]
      have := fb_addI (x := M 0 13) (y := 1) (by rw [show (1 : Int32).toInt = 1 from rfl]; omega) (by rw [show (1 : Int32).toInt = 1 from rfl]; omega)
      rw [this, show (1 : Int32).toInt = 1 from rfl]
      omega
  · rw [v 71 q (by omega) (by omega), h71]
    exact hL.1 q (by omega) h3'
theorem j_proc {n K B m : Nat} {C M : zSg} {r : Bool × zSg} (h : zI n K C M) (hK : K ≤ 190000) (hm : m < 3) (hJ : zJL n B m M) (hB : B + 23 ≤ 2000000000) (e : mT_go 17 M m = some r) : zJL n (B + 23) (m + 1) (mT_aft r.1 m (M 68 m) r.2) := by
  have hn := zI_n h
  have hck := zI_K h
  unfold mT_go at e
  by_cases c : M 68 m = -1
  · rw [if_pos c] at e
    cases e
    have := j_aft (b := false) (t := M 68 m) hn hm (j_m1 hJ.1) (fun _ => rfl) (by omega) hJ.2 (fun e => by cases e)
    exact ⟨j_le this.1 (by omega), this.2⟩
  · rw [if_neg c] at e
    obtain ⟨u, hu, eu, h2⟩ := zI_run h hm c
    rw [eu] at e ⊢
    obtain ⟨a, b⟩ := j_goOn hu hm 17 B K C M r h (by omega) hJ.1 (fun _ => eu) (by omega) e
    have hr1 : r.2 0 1 = M 0 1 := by
      have kt := zI_ps (p := m) hm hu 15 16 17 K C M h (by omega) eu (by have := (zI_W h 6 u).2; have h16 : (M 6 u).toInt ≤ 16 := this; have hb := (zI_T h hu).2.2.2.2.1 (by rw [h2]; decide) (by rw [h2]; decide); omega) (by decide) (by decide)
      obtain ⟨M1, k1, k2, hc⟩ := kt
      rcases hc with ⟨g1, g2, g3, g4, g5⟩ | ⟨g1, g2, g5⟩
      · rw [g5] at e
        cases e
        exact ((km_runOne (zI_W g2) (by omega) hm (zKm_r M1)).1 1 (by decide)).trans (k1.1 1 (by decide))
      · rw [g5] at e
        cases e
        exact k1.1 1 (by decide)
    exact j_aft hn hm a b (by rw [hr1]; omega) hJ.2 (fun _ => ⟨u, hu, rfl⟩)
theorem j_loop {n P cm : Nat} {ds di da : Int32} {C0 M0 : zSg} : ∀ (j m K B : Nat) (C M M' : zSg), m + j = P → P ≤ 3 → zI n K C M → K + j ≤ 190000 → ix (M 0 6) = P → ix (M 0 1) % 30 = cm → zLp m cm K ds di da C0 M0 C M → zJL n B m M → B + 23 * j ≤ 2000000000 → mT_pl 17 j m M = some M' → zJL n (B + 23 * j) P M'
  | 0, m, K, B, C, M, M', hP, _, _, _, _, _, _, hJ, _, e => by
    cases e
    have : m = P := by omega
    subst this
    exact hJ
  | j + 1, m, K, B, C, M, M', hP, hP3, h, hK, h6, hc, hl, hJ, hB, e => by
    subst hc
    obtain ⟨r, r1, r2, r3, r4, r5, r50⟩ := zI_proc (m := m) (f := 17) h (by omega) (by omega) (by omega) (by decide) hl
    rw [mT_pl, r1] at e
    have e2 : mT_pl 17 j (m + 1) (mT_aft r.1 m (M 68 m) r.2) = some M' := e
    have hJ2 := j_proc h (by omega) (by omega) hJ (by omega) r1
    have := j_loop j (m + 1) (K + 1) (B + 23) _ _ M' (by omega) hP3 r2 (by omega) (by rw [r4.2 0 6 rfl]; exact h6) (by rw [r5]) r3 hJ2 (by omega) e2
    rw [show B + 23 * (j + 1) = B + 23 + 23 * j by omega]
    exact this
