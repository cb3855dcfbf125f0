/-! What the small moves of a tick do to it -/
theorem wake_at (M : zSg) {u : Nat} (hu : u < 16) : (∀ t, mF_wake M (nI u) 41 t = if t = u then 1 else M 41 t) ∧ (∀ t, mF_wake M (nI u) 45 t = if t = u then M 0 9 else M 45 t) ∧ mF_wake M (nI u) 0 9 = M 0 9 + 1 ∧ (∀ f j, f = 49 ∨ f = 68 ∨ f = 101 ∨ f = 102 → mF_wake M (nI u) f j = M f j) := by
  rw [mF_wake_ch M hu]
  refine ⟨fun t => ?_, fun t => ?_, ?_, fun f j h => ?_⟩
  · rw [zup_a (by decide), zup_a (by decide)]
    by_cases e : t = u
    · subst e; rw [zup_at, if_pos rfl]
    · rw [zup_b e, if_neg e, zup_a (by decide), zup_a (by decide)]
  · rw [zup_a (by decide)]
    by_cases e : t = u
    · subst e; rw [zup_at, if_pos rfl]
    · rw [zup_b e, if_neg e, zup_a (by decide), zup_a (by decide), zup_a (by decide)]
  · rw [zup_at]
  · rw [zup_a (by omega), zup_a (by omega), zup_a (by omega), zup_a (by omega), zup_a (by omega)]
theorem ready_at (M : zSg) {u : Nat} (hu : u < 16) : (∀ t, mF_ready M (nI u) 41 t = if t = u then 1 else M 41 t) ∧ (∀ t, mF_ready M (nI u) 45 t = if t = u then M 0 9 else M 45 t) ∧ mF_ready M (nI u) 0 9 = M 0 9 + 1 ∧ (∀ f j, f = 49 ∨ f = 68 ∨ f = 101 ∨ f = 102 → mF_ready M (nI u) f j = M f j) := by
  unfold mF_ready
  rw [zix (by omega)]
  refine ⟨fun t => ?_, fun t => ?_, ?_, fun f j h => ?_⟩
  · rw [zup_a (by decide), zup_a (by decide)]
    by_cases e : t = u
    · subst e; rw [zup_at, if_pos rfl]
    · rw [zup_b e, if_neg e]
  · rw [zup_a (by decide)]
    by_cases e : t = u
    · subst e; rw [zup_at, if_pos rfl]
    · rw [zup_b e, if_neg e, zup_a (by decide)]
  · rw [zup_at]
  · rw [zup_a (by omega), zup_a (by omega), zup_a (by omega)]
theorem leave_o (M : zSg) (x : Int32) {f j : Nat} (hf : f ≠ 68) : mF_leave M x f j = M f j := by
  rw [mF_leave_at, if_neg (fun e => hf e.1)]
theorem leave_68 (M : zSg) (x : Int32) {j : Nat} (h : ¬ M 68 j = x) : mF_leave M x 68 j = M 68 j := by
  rw [mF_leave_at, if_neg (fun e => h e.2.2)]
theorem next_none {M : zSg} {its place : Int32} (hn : ix (M 0 15) ≤ 16) (h : mF_next M its place = -1) : ∀ k, k < ix (M 0 15) → M 41 k = its → ¬ M 49 k = place := by
  have key : mF_next M its place = -1 → ∀ k, k < ix (M 0 15) → M 41 k = its → ¬ M 49 k = place := by
    unfold mF_next
    refine q_fold (P := fun m s => s = -1 → ∀ k, k < m → M 41 k = its → ¬ M 49 k = place) (fun i s => mB_next M its place i s) (ix (M 0 15)) (fun _ k hk => absurd hk (Nat.not_lt_zero k)) (fun k s hk hs => ?_)
    intro e k2 hk2 h1 h2
    have e2 : mB_next M its place k s = -1 := e
    have hm : ¬ nI k = -1 := nI_nm k (by omega)
    by_cases c : k2 = k
    · subst c
      unfold mB_next at e2
      rw [if_pos h1, if_pos h2] at e2
      by_cases c1 : s = -1
      · rw [if_pos c1] at e2
        exact hm e2
      · rw [if_neg c1] at e2
        revert e2
        repeat' split
        all_goals first | exact hm | exact c1
    · refine hs ?_ k2 (by omega) h1 h2
      refine Classical.byContradiction fun c1 => ?_
      unfold mB_next at e2
      revert e2
      repeat' split
      all_goals first | exact hm | exact c1
  exact key h
section JRD
variable {n B m : Nat} {d : Int} {o : Bool} {w w' : Nat × Nat} {M M' : zSg}
theorem j_rdy {u : Nat} (hn : n ≤ 16) (h : zJ n B d o m w M) (hB : B ≤ 2000000000) (h6 : ¬ M 41 u = 6) (y : zKy M M') (e41 : ∀ t, M' 41 t = if t = u then 1 else M 41 t) (e45 : ∀ t, M' 45 t = if t = u then M 0 9 else M 45 t) (e09 : M' 0 9 = M 0 9 + 1) (e49 : ∀ t, M' 49 t = M 49 t) (on : ∀ p, p < m → M' 68 p = M 68 p) (e101 : ∀ q, q < 6 → M' 101 q = M 101 q) (e102 : ∀ q, q < 6 → M' 102 q = M 102 q) : zJ n (B + 1) d o m w M' := by
  refine j_mk hn h y (fun t _ => ?_) on (jl_mv h.2.1 e101 (fun t _ => ?_)) (je_mv h.2.2.1 e102 (fun t _ e => ?_)) (js_rdy (u := u) h.2.2.2.1 hB e09 (fun t _ => e45 t) (fun t _ c a b => ?_))
  · rw [e41]
    by_cases c : t = u
    · rw [if_pos c, c]
      exact ⟨fun e => absurd e (by decide), fun e => absurd e h6⟩
    · rw [if_neg c]
  · by_cases c : t = u
    · right
      rw [e41, if_pos c]
      exact ⟨by decide, by decide, by decide⟩
    · left
      rw [e41, if_neg c]
      exact ⟨rfl, e49 t⟩
  · rw [e41] at e
    by_cases c : t = u
    · rw [if_pos c] at e
      exact absurd e (by decide)
    · rw [if_neg c] at e
      exact ⟨e, e49 t⟩
  · rw [e41, if_neg c] at a b
    exact ⟨a, b⟩
theorem j_wake {u : Nat} (hn : n ≤ 16) (h : zJ n B d o m w M) (hB : B ≤ 2000000000) (hu : u < n) (h6 : ¬ M 41 u = 6) : zJ n (B + 1) d o m w (mF_wake M (nI u)) := by
  obtain ⟨a, b, c, e⟩ := wake_at M (u := u) (by omega)
  exact j_rdy hn h hB h6 (ky_wake (zKy_r M) _) a b c (fun t => e 49 t (by omega)) (fun p _ => e 68 p (by omega)) (fun q _ => e 101 q (by omega)) (fun q _ => e 102 q (by omega))
theorem j_ready {u : Nat} (hn : n ≤ 16) (h : zJ n B d o m w M) (hB : B ≤ 2000000000) (hu : u < n) (h6 : ¬ M 41 u = 6) : zJ n (B + 1) d o m w (mF_ready M (nI u)) := by
  obtain ⟨a, b, c, e⟩ := ready_at M (u := u) (by omega)
  exact j_rdy hn h hB h6 (ky_ready (zKy_r M) _) a b c (fun t => e 49 t (by omega)) (fun p _ => e 68 p (by omega)) (fun q _ => e 101 q (by omega)) (fun q _ => e 102 q (by omega))
theorem j_free {q : Nat} (hn : n ≤ 16) (hx : ix (M 0 15) = n) (h : zJ n B d o m w M) (hB : B ≤ 2000000000) (hq : q < 6) (hw : ∀ q2 t, t = w.1 ∧ w.2 ≤ q2 → q2 ≠ q → t = w'.1 ∧ w'.2 ≤ q2) : zJ n (B + 1) d o m w' (mF_free M (nI q)) := by
  have y := ky_free (zKy_r M) (nI q)
  revert y
  unfold mF_free
  dsimp only
  rw [zix (show q < 2147483648 by omega)]
  rcases next_rg (zup M 101 q (-1)) 4 (nI q) with e | ⟨k, hk, e, hs⟩
  · rw [e, if_pos rfl]
    intro y
    refine j_mk hn h y (fun t _ => by rw [zup_a (by decide)]) (fun p _ => zup_a (by decide)) (fun q2 t hq2 ht e2 => ?_) (je_mv h.2.2.1 (fun q2 _ => zup_a (by decide)) (fun t _ e2 => ⟨by rw [zup_a (by decide)] at e2; exact e2, zup_a (by decide)⟩)) (js_le (js_mv h.2.2.2.1 (zup_a (by decide)) (fun t _ => zup_a (by decide)) (fun t _ a b => by rw [zup_a (by decide)] at a b; exact ⟨a, b⟩)) (by omega))
    by_cases c : q2 = q
    · rw [c, zup_at] at e2
      exact absurd e2.symm (nI_nm t (by omega))
    · rw [zup_b c] at e2
      rw [zup_a (by decide), zup_a (by decide)]
      rcases h.2.1 q2 t hq2 ht e2 with g | g
      · exact Or.inl (hw q2 t g c)
      · exact Or.inr g
  · have hkn : k < n := by
      have : ix (zup M 101 q (-1) 0 15) = n := hx
      omega
    have hs4 : M 41 k = 4 := hs
    rw [e, if_neg (nI_nm k (by omega)), zix (show k < 2147483648 by omega)]
    intro y
    obtain ⟨a, b, c, e9⟩ := wake_at (zup (zup (zup M 101 q (-1)) 101 q (nI k)) 42 k (zup (zup M 101 q (-1)) 101 q (nI k) 42 k + 1)) (u := k) (by omega)
    generalize hM2 : zup (zup (zup M 101 q (-1)) 101 q (nI k)) 42 k (zup (zup M 101 q (-1)) 101 q (nI k) 42 k + 1) = M2 at a b c e9 y ⊢
    have v : ∀ f j, f ≠ 42 → f ≠ 101 → M2 f j = M f j := fun f j h1 h2 => by rw [← hM2, zup_a h1, zup_a h2, zup_a h2]
    have v1 : ∀ j, M2 101 j = if j = q then nI k else M 101 j := fun j => by
      rw [← hM2, zup_a (by decide)]
      by_cases c9 : j = q
      · rw [c9, zup_at, if_pos rfl]
      · rw [zup_b c9, zup_b c9, if_neg c9]
    have e41 : ∀ t, mF_wake M2 (nI k) 41 t = if t = k then 1 else M 41 t := fun t => by rw [a, v 41 t (by decide) (by decide)]
    have e49 : ∀ t, mF_wake M2 (nI k) 49 t = M 49 t := fun t => by rw [e9 49 t (by omega), v 49 t (by decide) (by decide)]
    refine j_mk hn h y (fun t _ => ?_) (fun p _ => by rw [e9 68 p (by omega), v 68 p (by decide) (by decide)]) (fun q2 t hq2 ht e2 => ?_) (je_mv h.2.2.1 (fun q2 _ => by rw [e9 102 q2 (by omega), v 102 q2 (by decide) (by decide)]) (fun t _ e2 => ?_)) (js_rdy (u := k) h.2.2.2.1 hB (by rw [c, v 0 9 (by decide) (by decide)]) (fun t _ => by rw [b, v 0 9 (by decide) (by decide), v 45 t (by decide) (by decide)]) (fun t _ c9 a9 b9 => ?_))
    · rw [e41]
      by_cases c9 : t = k
      · rw [if_pos c9, c9, hs4]
        exact ⟨fun e => absurd e (by decide), fun e => absurd e (by decide)⟩
      · rw [if_neg c9]
    · rw [e9 101 q2 (by omega), v1] at e2
      rw [e41, e49]
      by_cases c8 : q2 = q
      · rw [if_pos c8] at e2
        have : k = t := nI_inj (by omega) (by omega) e2
        right
        rw [if_pos this.symm]
        exact ⟨by decide, by decide, fun e => absurd e (by decide)⟩
      · rw [if_neg c8] at e2
        rcases h.2.1 q2 t hq2 ht e2 with g | g
        · exact Or.inl (hw q2 t g c8)
        · right
          by_cases c9 : t = k
          · rw [if_pos c9]
            exact ⟨by decide, by decide, fun e => absurd e (by decide)⟩
          · rw [if_neg c9]
            exact g
    · rw [e41] at e2
      by_cases c9 : t = k
      · rw [if_pos c9] at e2
        exact absurd e2 (by decide)
      · rw [if_neg c9] at e2
        exact ⟨e2, e49 t⟩
    · rw [e41, if_neg c9] at a9 b9
      exact ⟨a9, b9⟩
theorem j_signal {q : Nat} (hn : n ≤ 16) (hx : ix (M 0 15) = n) (h : zJ n B d o m w M) (hB : B ≤ 2000000000) (hq : q < 6) : zJ n (B + 1) d o m w (mF_signal M (nI q)) := by
  have y := ky_signal (zKy_r M) (nI q)
  revert y
  unfold mF_signal
  rw [zix (show q < 2147483648 by omega)]
  rcases next_rg M 5 (nI q) with e | ⟨k, hk, e, hs⟩
  · rw [e, if_pos rfl]
    intro y
    have hno := next_none (by omega) e
    refine j_mk hn h y (fun t _ => by rw [zup_a (by decide)]) (fun p _ => zup_a (by decide)) (jl_mv h.2.1 (fun q2 _ => zup_a (by decide)) (fun t _ => Or.inl ⟨zup_a (by decide), zup_a (by decide)⟩)) (fun q2 t hq2 ht e1 e2 => ?_) (js_le (js_mv h.2.2.2.1 (zup_a (by decide)) (fun t _ => zup_a (by decide)) (fun t _ a b => by rw [zup_a (by decide)] at a b; exact ⟨a, b⟩)) (by omega))
    rw [zup_a (by decide)] at e1 e2
    by_cases c : q2 = q
    · rw [c] at e2
      exact absurd e2 (hno t (by omega) e1)
    · rw [zup_b c]
      exact h.2.2.1 q2 t hq2 ht e1 e2
  · rw [e, if_neg (nI_nm k (by omega))]
    try dsimp only
    rw [zix (show k < 2147483648 by omega)]
    intro _
    exact j_wake hn (j_ir hn h (ir_up (ir_r M) (by unfold zRl; omega))) hB (by omega) (by rw [zup_a (by decide), hs]; decide)
/-- u leaves its processor for a state of its own -/
theorem j_out {u : Nat} {s : Int32} (hn : n ≤ 16) (h : zJ n B d o m w M) (h2 : M 41 u = 2) (hs : s = 3 ∨ s = 4 ∨ s = 5) (y : zKy M M') (e41 : ∀ t, M' 41 t = if t = u then s else M 41 t) (e45 : ∀ t, M' 45 t = M 45 t) (e09 : M' 0 9 = M 0 9) (e49 : ∀ t, t ≠ u → M' 49 t = M 49 t) (on : ∀ p, p < m → M' 68 p = M 68 p) (e101 : ∀ q, q < 6 → M' 101 q = M 101 q) (e102 : ∀ q, q < 6 → M' 102 q = M 102 q)
    (c4 : s = 4 → ∀ q, q < 6 → M 101 q = nI u → ¬ M' 49 u = nI q) (c5 : s = 5 → ∀ q, q < 6 → M' 49 u = nI q → M 102 q = 0) : zJ n B d o m w M' := by
  have s0 : ¬ s = 0 := by rcases hs with e | e | e <;> rw [e] <;> decide
  have s6 : ¬ s = 6 := by rcases hs with e | e | e <;> rw [e] <;> decide
  refine j_mk hn h y (fun t _ => ?_) on (fun q t hq ht e => ?_) (fun q t hq ht e1 e2 => ?_) (js_mv h.2.2.2.1 e09 (fun t _ => e45 t) (fun t _ a b => ?_))
  · rw [e41]
    by_cases c : t = u
    · rw [if_pos c, c, h2]
      exact ⟨fun e => absurd e s6, fun e => absurd e (by decide)⟩
    · rw [if_neg c]
  · rw [e101 q hq] at e
    rcases h.2.1 q t hq ht e with g | g
    · exact Or.inl g
    · right
      rw [e41]
      by_cases c : t = u
      · rw [if_pos c, c]
        rw [c] at e
        exact ⟨s0, s6, fun e4 => c4 e4 q hq e⟩
      · rw [if_neg c, e49 t c]
        exact g
  · rw [e41] at e1
    rw [e102 q hq]
    by_cases c : t = u
    · rw [if_pos c] at e1
      rw [c] at e2
      exact c5 e1 q hq e2
    · rw [if_neg c] at e1
      rw [e49 t c] at e2
      exact h.2.2.1 q t hq ht e1 e2
  · rw [e41] at a b
    by_cases c : t = u
    · rw [c, h2]
      exact ⟨by decide, by decide⟩
    · rw [if_neg c] at a b
      exact ⟨a, b⟩
theorem j_stay {u q : Nat} {its : Int32} (hn : n ≤ 16) (h : zJ n B d o m w M) (hu : u < n) (h2 : M 41 u = 2) (hno : ∀ p, p < m → ¬ M 68 p = nI u) (hq : q < 6) (hs : its = 4 ∨ its = 5) (c4 : its = 4 → ¬ M 101 q = nI u) (c5 : its = 5 → M 102 q = 0) : zJ n B d o m w (mF_stay M (nI u) its (nI q)) := by
  have y := ky_stay (zKy_r M) (nI u) its (nI q)
  revert y
  unfold mF_stay
  dsimp only
  rw [zix (show u < 2147483648 by omega)]
  intro y
  have e49 : zup (zup (zup (zup (mF_leave M (nI u)) 41 u its) 49 u (nI q)) 50 u (zup (zup (mF_leave M (nI u)) 41 u its) 49 u (nI q) 0 10)) 0 10 (zup (zup (zup (mF_leave M (nI u)) 41 u its) 49 u (nI q)) 50 u (zup (zup (mF_leave M (nI u)) 41 u its) 49 u (nI q) 0 10) 0 10 + 1) 49 u = nI q := by
    rw [zup_a (by decide), zup_a (by decide), zup_at]
  refine j_out hn h h2 (s := its) (Or.inr hs) y (fun t => ?_) (fun t => ?_) ?_ (fun t ht => ?_) (fun p hp => ?_) (fun q2 _ => ?_) (fun q2 _ => ?_) (fun e4 q2 hq2 e9 e8 => ?_) (fun e5 q2 hq2 e8 => ?_)
  · rw [zup_a (by decide), zup_a (by decide), zup_a (by decide)]
    by_cases c : t = u
    · rw [c, zup_at, if_pos rfl]
    · rw [zup_b c, if_neg c, leave_o _ _ (by decide)]
  · rw [zup_a (by decide), zup_a (by decide), zup_a (by decide), zup_a (by decide), leave_o _ _ (by decide)]
  · rw [zup_b (by decide), zup_a (by decide), zup_a (by decide), zup_a (by decide), leave_o _ _ (by decide)]
  · rw [zup_a (by decide), zup_a (by decide), zup_b ht, zup_a (by decide), leave_o _ _ (by decide)]
  · rw [zup_a (by decide), zup_a (by decide), zup_a (by decide), zup_a (by decide), leave_68 _ _ (hno p hp)]
  · rw [zup_a (by decide), zup_a (by decide), zup_a (by decide), zup_a (by decide), leave_o _ _ (by decide)]
  · rw [zup_a (by decide), zup_a (by decide), zup_a (by decide), zup_a (by decide), leave_o _ _ (by decide)]
  · rw [e49] at e8
    have : q = q2 := nI_inj (by omega) (by omega) e8
    exact c4 e4 (this ▸ e9)
  · rw [e49] at e8
    have : q = q2 := nI_inj (by omega) (by omega) e8
    exact this ▸ c5 e5
theorem j_step {u : Nat} {v : Int32} (hn : n ≤ 16) (h : zJ n B d o m w M) : zJ n B d o m w (zup M 42 u v) := j_ir hn h (ir_up (ir_r M) (by unfold zRl; omega))
theorem j_go {u : Nat} {code nn : Int32} (hn : n ≤ 16) (hx : ix (M 0 15) = n) (h : zJ n B d o m (0, 6) M) (hB : B ≤ 2000000000) (hu : u < n) (h2 : M 41 u = 2) (hno : ∀ p, p < m → ¬ M 68 p = nI u) (hok : zok6 code nn = true) (h5 : code = 5 → ¬ M 102 (ix nn) = 0) : zJ n (B + 1) d o m (0, 6) (mD_go M (nI u) code nn) := by
  unfold mD_go
  rw [zix (show u < 2147483648 by omega)]
  dsimp only
  have h1 := j_step (u := u) (v := M 42 u + 1) hn h
  have hx1 : ix (zup M 42 u (M 42 u + 1) 0 15) = n := hx
  have h21 : zup M 42 u (M 42 u + 1) 41 u = 2 := h2
  have hno1 : ∀ p, p < m → ¬ zup M 42 u (M 42 u + 1) 68 p = nI u := hno
  have h51 : code = 5 → ¬ zup M 42 u (M 42 u + 1) 102 (ix nn) = 0 := h5
  generalize zup M 42 u (M 42 u + 1) = M1 at h1 hx1 h21 hno1 h51 ⊢
  by_cases d1 : code = 1
  · rw [if_pos d1]
    unfold mD_sleep
    rw [zix (show u < 2147483648 by omega)]
    dsimp only
    refine j_le (j_out hn h1 h21 (s := 3) (Or.inl rfl) (zKy_up (zKy_up (ky_leave (zKy_r M1) _) (by omega)) (by omega)) (fun t => ?_) (fun t => ?_) ?_ (fun t ht => ?_) (fun p hp => ?_) (fun q2 _ => ?_) (fun q2 _ => ?_) (fun e => absurd e (by decide)) (fun e => absurd e (by decide))) (by omega)
    · rw [zup_a (by decide)]
      by_cases c : t = u
      · rw [c, zup_at, if_pos rfl]
      · rw [zup_b c, if_neg c, leave_o _ _ (by decide)]
    · rw [zup_a (by decide), zup_a (by decide), leave_o _ _ (by decide)]
    · rw [zup_a (by decide), zup_a (by decide), leave_o _ _ (by decide)]
    · rw [zup_a (by decide), zup_a (by decide), leave_o _ _ (by decide)]
    · rw [zup_a (by decide), zup_a (by decide), leave_68 _ _ (hno1 p hp)]
    · rw [zup_a (by decide), zup_a (by decide), leave_o _ _ (by decide)]
    · rw [zup_a (by decide), zup_a (by decide), leave_o _ _ (by decide)]
  rw [if_neg d1]
  by_cases d2 : code = 2
  · rw [if_pos d2]
    obtain ⟨q, hq, rfl⟩ := zok6_n hok (Or.inl d2)
    rw [zix (show q < 2147483648 by omega)]
    refine j_le (j_mk hn h1 (zKy_up (zKy_r M1) (by omega)) (fun t _ => by rw [zup_a (by decide)]) (fun p _ => zup_a (by decide)) (fun q2 t hq2 ht e2 => ?_) (je_mv h1.2.2.1 (fun q2 _ => zup_a (by decide)) (fun t _ e2 => ⟨by rw [zup_a (by decide)] at e2; exact e2, zup_a (by decide)⟩)) (js_mv h1.2.2.2.1 (zup_a (by decide)) (fun t _ => zup_a (by decide)) (fun t _ a b => by rw [zup_a (by decide)] at a b; exact ⟨a, b⟩))) (by omega)
    rw [zup_a (by decide), zup_a (by decide)]
    by_cases c : q2 = q
    · rw [c, zup_at] at e2
      have : u = t := nI_inj (by omega) (by omega) e2
      right
      rw [← this, h21]
      exact ⟨by decide, by decide, fun e => absurd e (by decide)⟩
    · rw [zup_b c] at e2
      exact h1.2.1 q2 t hq2 ht e2
  rw [if_neg d2]
  by_cases d3 : code = 3
  · rw [if_pos d3]
    obtain ⟨q, hq, rfl⟩ := zok6_n hok (Or.inr (Or.inl d3))
    split
    · exact j_free hn hx1 h1 hB hq (fun q2 t g _ => g)
    · exact j_le h1 (by omega)
  rw [if_neg d3]
  by_cases d4 : code = 4
  · rw [if_pos d4]
    obtain ⟨q, hq, rfl⟩ := zok6_n hok (Or.inr (Or.inr (Or.inl d4)))
    exact j_signal hn hx1 h1 hB hq
  rw [if_neg d4]
  by_cases d5 : code = 5
  · rw [if_pos d5]
    obtain ⟨q, hq, rfl⟩ := zok6_n hok (Or.inr (Or.inr (Or.inr d5)))
    have h52 := h51 d5
    rw [zix (show q < 2147483648 by omega)] at h52 ⊢
    refine j_le (j_mk hn h1 (zKy_up (zKy_r M1) (by omega)) (fun t _ => by rw [zup_a (by decide)]) (fun p _ => zup_a (by decide)) (jl_mv h1.2.1 (fun q2 _ => zup_a (by decide)) (fun t _ => Or.inl ⟨zup_a (by decide), zup_a (by decide)⟩)) (fun q2 t hq2 ht e1 e2 => ?_) (js_mv h1.2.2.2.1 (zup_a (by decide)) (fun t _ => zup_a (by decide)) (fun t _ a b => by rw [zup_a (by decide)] at a b; exact ⟨a, b⟩))) (by omega)
    rw [zup_a (by decide)] at e1 e2
    have g := h1.2.2.1 q2 t hq2 ht e1 e2
    by_cases c : q2 = q
    · exact absurd (c ▸ g) h52
    · rw [zup_b c]
      exact g
  rw [if_neg d5]
  have h3 : zJ n B d o m (0, 6) (mF_leave M1 (nI u)) := by
    have e41 : ∀ t, mF_leave M1 (nI u) 41 t = M1 41 t := fun t => leave_o _ _ (by decide)
    have e49 : ∀ t, mF_leave M1 (nI u) 49 t = M1 49 t := fun t => leave_o _ _ (by decide)
    exact j_mk hn h1 (ky_leave (zKy_r M1) _) (fun t _ => by rw [e41]) (fun p hp => leave_68 _ _ (hno1 p hp)) (jl_mv h1.2.1 (fun q2 _ => leave_o _ _ (by decide)) (fun t _ => Or.inl ⟨e41 t, e49 t⟩)) (je_mv h1.2.2.1 (fun q2 _ => leave_o _ _ (by decide)) (fun t _ e2 => ⟨by rw [e41] at e2; exact e2, e49 t⟩)) (js_mv h1.2.2.2.1 (leave_o _ _ (by decide)) (fun t _ => leave_o _ _ (by decide)) (fun t _ a b => by rw [e41] at a b; exact ⟨a, b⟩))
  exact j_ready hn h3 hB hu (by rw [leave_o _ _ (by decide), h21]; decide)
theorem j_do {u : Nat} {code nn : Int32} (hn : n ≤ 16) (hx : ix (M 0 15) = n) (h : zJ n B d o m (0, 6) M) (hB : B ≤ 2000000000) (hu : u < n) (h2 : M 41 u = 2) (hno : ∀ p, p < m → ¬ M 68 p = nI u) (hok : zok6 code nn = true) : zJ n (B + 1) d o m (0, 6) (mF_doStep M (nI u) code nn) := by
  have aw : zJ n (B + 1) d o m (0, 6) (mD_aw M (nI u) code nn) := by
    unfold mD_aw
    by_cases d5 : code = 5
    · rw [if_pos d5]
      obtain ⟨q, hq, rfl⟩ := zok6_n hok (Or.inr (Or.inr (Or.inr d5)))
      by_cases c : M 102 (ix (nI q)) = 0
      · rw [if_pos c]
        rw [zix (show q < 2147483648 by omega)] at c
        exact j_le (j_stay hn h hu h2 hno hq (Or.inr rfl) (fun e => absurd e (by decide)) (fun _ => c)) (by omega)
      · rw [if_neg c]
        exact j_go hn hx h hB hu h2 hno hok (fun _ => c)
    · rw [if_neg d5]
      exact j_go hn hx h hB hu h2 hno hok (fun e => absurd e d5)
  unfold mF_doStep
  by_cases d2 : code = 2
  · rw [if_pos d2]
    obtain ⟨q, hq, rfl⟩ := zok6_n hok (Or.inl d2)
    rw [zix (show q < 2147483648 by omega)]
    by_cases c : M 101 q = -1
    · rw [if_pos c]
      exact aw
    · rw [if_neg c]
      by_cases c2 : M 101 q = nI u
      · rw [if_pos c2]
        exact aw
      · rw [if_neg c2]
        exact j_le (j_stay hn h hu h2 hno hq (Or.inl rfl) (fun _ => c2) (fun e => absurd e (by decide))) (by omega)
  · rw [if_neg d2]
    exact aw
end JRD
