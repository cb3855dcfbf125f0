/-! .. what the end of a task does, and a tick that is run -/
section JFI
variable {n B m : Nat} {d : Int} {o : Bool} {M M' : zSg}
theorem jl_6 {w : Nat × Nat} (h : zJl n w M) (hw : 6 ≤ w.2) (w' : Nat × Nat) : zJl n w' M := fun q t hq ht e => by
  rcases h q t hq ht e with g | g
  · omega
  · exact Or.inr g
theorem j_fin3 {u : Nat} (hn : n ≤ 16) (h : zJ n B d o m (0, 6) M) (hu : u < n) (hc : 0 ≤ (M 0 1).toInt) (e41 : ∀ t, M' 41 t = if t = u then 6 else M 41 t) (ec : ∀ t j, t < 16 → M' (52 + t) j = if t = u ∧ j = 4 then M 0 1 else M (52 + t) j) (e0 : ∀ j, M' 0 j = M 0 j) (e68 : ∀ t p, t < n → t ≠ u → M 68 p = nI t → M' 68 p = nI t) (ev : ∀ f j, f = 45 ∨ f = 49 ∨ f = 71 ∨ f = 101 ∨ f = 102 → M' f j = M f j) : zJ n B d o m (u, 0) M' := by
  obtain ⟨h1, h2, h3, h4, h5, h6⟩ := h
  have c4 : ∀ t j, t < 16 → j ≠ 4 → zc M' t j = zc M t j := fun t j ht hj => by
    unfold zc
    rw [ec t j ht, if_neg (fun e => hj e.2)]
  refine ⟨fun t ht => ?_, fun q t hq ht e => ?_, je_mv h3 (fun q _ => ev 102 q (by omega)) (fun t _ e => ?_), js_mv h4 (e0 9) (fun t _ => ev 45 t (by omega)) (fun t _ a b => ?_), ?_, ?_⟩
  · obtain ⟨a, b, c, e⟩ := h1 t ht
    rw [c4 t 0 (by omega) (by decide), c4 t 1 (by omega) (by decide), c4 t 2 (by omega) (by decide), c4 t 3 (by omega) (by decide), e41, e0]
    by_cases q : t = u
    · rw [if_pos q]
      refine ⟨a, b, ⟨fun _ => rfl, fun _ => ?_⟩, ?_⟩
      · unfold zc
        rw [ec t 4 (by omega), if_pos ⟨q, rfl⟩]
        exact hc
      · rcases e with e | ⟨e, x⟩
        · exact Or.inl e
        · exact Or.inr ⟨e, x.1, Or.inl (by rw [e41, if_pos q])⟩
    · rw [if_neg q]
      refine ⟨a, b, ?_, ?_⟩
      · unfold zc
        rw [ec t 4 (by omega), if_neg (fun e => q e.1)]
        exact c
      · rcases e with e | ⟨e, x⟩
        · exact Or.inl e
        · refine Or.inr ⟨e, x.1, ?_⟩
          rcases x.2 with x | ⟨p, hp, x⟩
          · exact Or.inl (by rw [e41, if_neg q]; exact x)
          · exact Or.inr ⟨p, hp, e68 t p ht q x⟩
  · rw [ev 101 q (by omega)] at e
    rw [e41, ev 49 t (by omega)]
    by_cases c : t = u
    · exact Or.inl ⟨c, Nat.zero_le _⟩
    · rw [if_neg c]
      rcases h2 q t hq ht e with g | g
      · exact absurd g.2 (by show ¬ 6 ≤ q; omega)
      · exact Or.inr g
  · rw [e41] at e
    by_cases c : t = u
    · rw [if_pos c] at e
      exact absurd e (by decide)
    · rw [if_neg c] at e
      exact ⟨e, ev 49 t (by omega)⟩
  · rw [e41] at a b
    by_cases c : t = u
    · rw [if_pos c] at b
      exact absurd rfl b
    · rw [if_neg c] at a b
      exact ⟨a, b⟩
  · rw [zsm_cg n (fun t ht => c4 t 0 (by omega) (by decide)), e0]
    exact h5
  · rcases h6 with g | g
    · exact Or.inl ((e0 1).trans g)
    · refine Or.inr (fun p hp => ?_)
      rw [ev 71 p (by omega)]
      exact g p hp
theorem j_finish {u : Nat} (hn : n ≤ 16) (hW : zmW M) (hx : ix (M 0 15) = n) (h : zJ n B d o m (0, 6) M) (hB : B + 6 ≤ 2000000000) (hu : u < n) (hc : 0 ≤ (M 0 1).toInt) : zJ n (B + 6) d o m (0, 6) (mF_finish M (nI u)) := by
  have hn16 : u < 16 := by omega
  unfold mF_finish
  dsimp only
  rw [zix (show u < 2147483648 by omega), show ix (4 : Int32) = 4 from rfl]
  have l41 : ∀ t, mF_leave M (nI u) 41 t = M 41 t := fun t => leave_o _ _ (by decide)
  have hk : zk M (zup (zup (zup (mF_leave M (nI u)) 41 u 6) 42 u (zup (mF_leave M (nI u)) 41 u 6 6 u)) (52 + u) 4 (zup (zup (mF_leave M (nI u)) 41 u 6) 42 u (zup (mF_leave M (nI u)) 41 u 6 6 u) 0 1)) := zk_cnt (zk_up (zk_up (zk_leave (zk_r hW) _) (f := 41) (by rfl) zst_6) (f := 42) (by rfl) (zr_any _)) hn16 _ _
  have v01 : zup (zup (mF_leave M (nI u)) 41 u 6) 42 u (zup (mF_leave M (nI u)) 41 u 6 6 u) 0 1 = M 0 1 := by rw [zup_a (by decide), zup_a (by decide), leave_o _ _ (by decide)]
  rw [v01] at hk ⊢
  have h3 : zJ n B d o m (u, 0) (zup (zup (zup (mF_leave M (nI u)) 41 u 6) 42 u (zup (mF_leave M (nI u)) 41 u 6 6 u)) (52 + u) 4 (M 0 1)) := by
    refine j_fin3 hn h hu hc (fun t => ?_) (fun t j ht => ?_) (fun j => ?_) (fun t p htn ht e => ?_) (fun f j hf => ?_)
    · rw [zup_a (by omega), zup_a (by decide)]
      by_cases c : t = u
      · rw [c, zup_at, if_pos rfl]
      · rw [zup_b c, if_neg c, l41]
    · by_cases c : t = u ∧ j = 4
      · rw [if_pos c, c.1, c.2, zup_at]
      · rw [if_neg c, zup_o (fun e => c ⟨by omega, e.2⟩), zup_a (by omega), zup_a (by omega), leave_o _ _ (by omega)]
    · rw [zup_a (by omega), zup_a (by decide), zup_a (by decide), leave_o _ _ (by decide)]
    · rw [zup_a (by omega), zup_a (by decide), zup_a (by decide), leave_68 _ _ (fun e9 => ht (nI_inj (by omega) (by omega) (e.symm.trans e9).symm).symm)]
      exact e
    · rw [zup_a (by omega), zup_a (by omega), zup_a (by omega), leave_o _ _ (by omega)]
  generalize zup (zup (zup (mF_leave M (nI u)) 41 u 6) 42 u (zup (mF_leave M (nI u)) 41 u 6 6 u)) (52 + u) 4 (M 0 1) = M3 at hk h3 ⊢
  have key := q_fold (P := fun k s => zk M s ∧ zJ n (B + k) d o m (u, k) s) (fun i s => mB_finish (nI u) i s) 6 ⟨hk, h3⟩ (fun k s hk6 hs => by
    obtain ⟨g1, g2⟩ := hs
    show zk M (mB_finish (nI u) k s) ∧ zJ n (B + (k + 1)) d o m (u, k + 1) (mB_finish (nI u) k s)
    unfold mB_finish
    by_cases c : s 101 k = nI u
    · rw [if_pos c]
      refine ⟨zk_free g1 _, j_free (B := B + k) hn (by rw [g1.2 0 15 rfl]; exact hx) g2 (by omega) hk6 (fun q2 t g9 hne => ⟨g9.1, by have : k ≤ q2 := g9.2; show k + 1 ≤ q2; omega⟩)⟩
    · rw [if_neg c]
      refine ⟨g1, ?_⟩
      obtain ⟨a1, a2, a3, a4, a5, a6⟩ := g2
      refine ⟨a1, fun q t hq ht e => ?_, a3, js_le a4 (by omega), a5, a6⟩
      rcases a2 q t hq ht e with g | g
      · left
        have g1 : t = u := g.1
        have g2 : k ≤ q := g.2
        refine ⟨g1, ?_⟩
        show k + 1 ≤ q
        have : q ≠ k := fun e9 => c (by rw [← e9, e, g1])
        omega
      · exact Or.inr g)
  obtain ⟨k1, a1, a2, a3, a4, a5, a6⟩ := key
  exact ⟨a1, jl_6 a2 (Nat.le_refl 6) (0, 6), a3, a4, a5, a6⟩
theorem zX_m1 {t : Nat} (h : zX o m M t) : zX o (m + 1) M t := ⟨h.1, h.2.elim Or.inl (fun ⟨p, hp, e⟩ => Or.inr ⟨p, by omega, e⟩)⟩
theorem j_m1 {w : Nat × Nat} (h : zJ n B d o m w M) : zJ n B d o (m + 1) w M := by
  obtain ⟨h1, h2⟩ := h
  refine ⟨fun t ht => ?_, h2⟩
  obtain ⟨a, b, c, e⟩ := h1 t ht
  exact ⟨a, b, c, e.elim Or.inl (fun e => Or.inr ⟨e.1, zX_m1 e.2⟩)⟩
theorem zinc1 {x : Int32} (h0 : 0 ≤ x.toInt) (h : x.toInt ≤ 2000000000) : (x + 1).toInt = x.toInt + 1 := fb_addI (y := 1) (by rw [show (1 : Int32).toInt = 1 from rfl]; omega) (by rw [show (1 : Int32).toInt = 1 from rfl]; omega)
/-- u runs this tick -/
theorem j_X {u g : Nat} (hn : n ≤ 16) (h : zJ n B 0 true m (0, 6) M) (hu : u < n) (hm : m < 3) (hum : M 68 m = nI u) (h2 : M 41 u = 2) (hno : ∀ p, p < m → ¬ M 68 p = nI u) (hc : 0 ≤ (M 0 1).toInt ∧ (M 0 1).toInt ≤ 200000) : zJ n B 1 true (m + 1) (0, 6) (qXM M u m g) := by
  obtain ⟨h1, h3, h4, h5, h6, h7⟩ := h
  have v : ∀ f j, zRl f j → ¬ (f = 52 + u ∧ (j = 0 ∨ j = 3)) → qXM M u m g f j = M f j := fun f j hr hf => by
    unfold zRl at hr
    unfold qXM
    rw [zup_a (by omega), zup_a (by omega), zup_a (by omega), zup_a (by omega), zup_o (by omega), zup_o (by omega)]
  have v0 : qXM M u m g (52 + u) 0 = M (52 + u) 0 + 1 := by
    unfold qXM
    rw [zup_a (by omega), zup_a (by omega), zup_a (by omega), zup_a (by omega), zup_at]
  have v3 : qXM M u m g (52 + u) 3 = if M (52 + u) 0 = 0 then M 0 1 else M (52 + u) 3 := by
    unfold qXM
    rw [zup_a (by omega), zup_a (by omega), zup_a (by omega), zup_a (by omega), zup_b (by decide), zup_at]
  have e41 : ∀ t, qXM M u m g 41 t = M 41 t := fun t => v 41 t (by unfold zRl; omega) (by omega)
  have e49 : ∀ t, qXM M u m g 49 t = M 49 t := fun t => v 49 t (by unfold zRl; omega) (by omega)
  have e68 : ∀ t, qXM M u m g 68 t = M 68 t := fun t => v 68 t (by unfold zRl; omega) (by omega)
  have e01 : qXM M u m g 0 1 = M 0 1 := v 0 1 (by unfold zRl; omega) (by omega)
  obtain ⟨a, b, c, e⟩ := h1 u hu
  have hs : zc M u 0 + zc M u 1 + zc M u 2 ≤ (M 0 1).toInt := by
    rcases e with e | ⟨e, x⟩
    · exact e
    · rcases x.2 with x | ⟨p, hp, x⟩
      · rw [h2] at x
        exact absurd x (by decide)
      · exact absurd x (hno p hp)
  have hi : (M (52 + u) 0 + 1).toInt = (M (52 + u) 0).toInt + 1 := zinc1 a.1 (by have : zc M u 0 = (M (52 + u) 0).toInt := rfl; omega)
  have w0 : zc (qXM M u m g) u 0 = zc M u 0 + 1 := by
    unfold zc
    rw [v0, hi]
  have wo : ∀ t j, t < 16 → ¬ (t = u ∧ (j = 0 ∨ j = 3)) → zc (qXM M u m g) t j = zc M t j := fun t j ht hne => by
    unfold zc
    rw [v (52 + t) j (by unfold zRl; omega) (by omega)]
  refine ⟨fun t ht => ?_, jl_mv h3 (fun q _ => v 101 q (by unfold zRl; omega) (by omega)) (fun t _ => Or.inl ⟨e41 t, e49 t⟩), je_mv h4 (fun q _ => v 102 q (by unfold zRl; omega) (by omega)) (fun t _ e => ⟨by rw [← e41]; exact e, e49 t⟩), js_mv h5 (v 0 9 (by unfold zRl; omega) (by omega)) (fun t _ => v 45 t (by unfold zRl; omega) (by omega)) (fun t _ a b => by rw [e41] at a b; exact ⟨a, b⟩), ?_, ?_⟩
  · by_cases q : t = u
    · subst q
      rw [w0, wo t 1 (by omega) (by omega), wo t 2 (by omega) (by omega), wo t 4 (by omega) (by omega), e41, e01]
      refine ⟨by omega, ⟨fun _ => ?_, fun _ => by omega⟩, c, Or.inr ⟨by omega, rfl, Or.inr ⟨m, by omega, by rw [e68]; exact hum⟩⟩⟩
      unfold zc
      rw [v3]
      by_cases z : M (52 + t) 0 = 0
      · rw [if_pos z]
        exact hc.1
      · rw [if_neg z]
        refine b.mp ?_
        have : (M (52 + t) 0).toInt ≠ 0 := fun e9 => z (Int32.toInt_inj.mp e9)
        have : zc M t 0 = (M (52 + t) 0).toInt := rfl
        omega
    · obtain ⟨a', b', c', e'⟩ := h1 t ht
      rw [wo t 0 (by omega) (by omega), wo t 1 (by omega) (by omega), wo t 2 (by omega) (by omega), wo t 3 (by omega) (by omega), wo t 4 (by omega) (by omega), e41, e01]
      refine ⟨a', b', c', e'.elim Or.inl (fun e' => Or.inr ⟨e'.1, zX_mv (zX_m1 e'.2) (fun e => by rw [e41]; exact e) (fun p _ => e68 p)⟩)⟩
  · rw [zsm_up n hu (fun t ht hne => wo t 0 (by omega) (by omega)) w0, h6, v 0 13 (by unfold zRl; omega) (by omega)]
    omega
  · rcases h7 with g | g
    · exact Or.inl (e01.trans g)
    · refine Or.inr (fun p hp => ?_)
      rw [v 71 p (by unfold zRl; omega) (by omega)]
      exact g p hp
theorem j_runTail {u : Nat} {x : Int32} {w : Nat × Nat} (hn : n ≤ 16) (hW : zmW M) (hx : ix (M 0 15) = n) (h : zJ n B d o m (0, 6) M) (hB : B + 6 ≤ 2000000000) (hu : u < n) (hc : 0 ≤ (M 0 1).toInt) : zJ n (B + 6) d o m (0, 6) (mF_runTail M (nI u) x) := by
  have hu16 : u < 16 := by omega
  by_cases c : M 44 u < x
  · rw [rTl_1 hu16 c]
    exact j_le h (by omega)
  · by_cases c2 : M 42 u + 1 < M 6 u
    · rw [rTl_2 hu16 c c2]
      exact j_le (j_ir hn h (ir_up (ir_up (ir_r M) (by unfold zRl; omega)) (by unfold zRl; omega))) (by omega)
    · rw [rTl_3 hu16 c c2]
      have h4 : zJ n B d o m (0, 6) (zup (zup (zup (zup M 44 u 0) 42 u (M 42 u + 1)) 43 u (M 43 u + 1)) 42 u 0) := j_ir hn h (ir_up (ir_up (ir_up (ir_up (ir_r M) (by unfold zRl; omega)) (by unfold zRl; omega)) (by unfold zRl; omega)) (by unfold zRl; omega))
      have hk : zk M (zup (zup (zup (zup M 44 u 0) 42 u (M 42 u + 1)) 43 u (M 43 u + 1)) 42 u 0) := zk_up (zk_up (zk_up (zk_up (zk_r hW) (f := 44) (by rfl) (zr_any _)) (f := 42) (by rfl) (zr_any _)) (f := 43) (by rfl) (zr_any _)) (f := 42) (by rfl) (zr_any _)
      by_cases c3 : M 43 u + 1 = M 5 u
      · rw [if_pos c3]
        exact j_finish hn hk.1 hx h4 hB hu hc
      · rw [if_neg c3]
        exact j_le h4 (by omega)
theorem j_run {u : Nat} {x : Int32} {K : Nat} {C : zSg} (hI : zI n K C M) (hK : K ≤ 200000) (h : zJ n B 0 true m (0, 6) M) (hB : B + 6 ≤ 2000000000) (hu : u < n) (hm : m < 3) (hum : M 68 m = nI u) : zJ n (B + 6) 1 true (m + 1) (0, 6) (mF_runOne M (nI u) (nI m) x) := by
  have hn := zI_n hI
  have h2 := zI_on2 hI hu hm hum
  have hc := zI_K hI
  obtain ⟨g, hg4, eg⟩ : ∃ g, g < 4 ∧ M 4 u = nI g := vp_in_of (zin_r (a := 0) (b := 3) (n := 4) (zI_W hI 4 u) (by decide) (by decide)) (by decide)
  rw [mF_runOne_eq (by omega) hm eg hg4]
  have hno : ∀ p, p < m → ¬ M 68 p = nI u := fun p hp e => by
    have := (zI_O hI).2.2.1 p m (by omega) hm (e.trans hum.symm) (by rw [e]; exact nI_nm u (by omega))
    omega
  have hX := j_X (g := g) hn h hu hm hum h2 hno (by omega)
  have kX := zI_X hI hK hu hm hum hg4
  exact j_runTail (w := (0, 6)) hn (zI_W kX) (zI_ix kX) hX hB hu (zI_K kX).1
end JFI
