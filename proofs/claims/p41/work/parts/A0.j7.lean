/-! What start, end, signal and tick do to both -/
theorem nI_pl (a : Nat) : ∀ b, nI a + nI b = nI (a + b)
  | 0 => by rw [show nI 0 = 0 from rfl, Int32.add_zero]; rfl
  | b + 1 => by rw [← nI_1 b, ← Int32.add_assoc, nI_pl a b, nI_1]; rfl
theorem ag_is {K : Nat} {R : zRs} {A M0 : zSg} (h : zAg LXS K R A (mF_ref M0 2)) : R = .inr eIS := by
  rcases R with q | E
  · have e : zup M0 0 0 2 0 0 = 0 := h.2.1
    rw [zup_at] at e
    exact absurd e (by decide)
  · obtain ⟨h1, h2, _⟩ := h
    have e : zup M0 0 0 2 0 0 = eco LXS E := h2
    rw [zup_at] at e
    simp only [LXS, List.mem_cons, List.not_mem_nil, or_false] at h1
    rcases h1 with rfl | rfl
    · exact absurd e (by decide)
    · rfl
theorem those_b {n q : Nat} {its : Int32} {M : zSg} (hn : n ≤ 16) (hx : ix (M 0 15) = n) {i : Nat} (hi : i < 32) : bt (mF_those M its (nI q)) i = true ↔ i < n ∧ M 41 i = its ∧ M 49 i = nI q := by
  have e2 := fold_bits (b := fun k s => mB_those M its (nI q) k s) (c := fun k => M 41 k = its ∧ M 49 k = nI q) (ix (M 0 15)) (by omega) (fun k s i hk hi => by
    show bt (s ||| (if M 41 k = its then (if M 49 k = nI q then (1 : Int32) <<< (nI k &&& 31) else 0) else 0)) i = true ↔ _
    by_cases c1 : M 41 k = its
    · rw [if_pos c1, bit_if (by omega) hi]
      exact ⟨fun e => e.elim Or.inl (fun e => Or.inr ⟨e.1, c1, e.2⟩), fun e => e.elim Or.inl (fun e => Or.inr ⟨e.1, e.2.2⟩)⟩
    · rw [if_neg c1, Int32.or_zero]
      exact ⟨Or.inl, fun e => e.elim id (fun e => absurd e.2.1 c1)⟩) i hi
  rw [hx] at e2
  show bt ((List.range (ix (M 0 15))).foldl (fun s k => mB_those M its (nI q) k s) 0) i = true ↔ _
  rw [hx]
  exact e2
theorem bt_ff {b : Bool} (h : ¬ b = true) : b = false := by cases b <;> first | rfl | exact absurd rfl h
theorem those_0 {n q : Nat} {its : Int32} {M : zSg} (hn : n ≤ 16) (hx : ix (M 0 15) = n) : mF_those M its (nI q) = 0 ↔ ∀ t, t < n → M 41 t = its → ¬ M 49 t = nI q := by
  constructor
  · intro e t ht h1 h2
    have := (those_b hn hx (its := its) (q := q) (i := t) (by omega)).mpr ⟨ht, h1, h2⟩
    rw [e, b_0] at this
    cases this
  · intro h
    refine b_ext fun i hi => ?_
    rw [b_0]
    refine bt_ff (fun e => ?_)
    obtain ⟨a, b, c⟩ := (those_b hn hx hi).mp e
    exact h i a b c
section ZTU
variable {n K B : Nat} {A M : zSg}
theorem t_start {t : Nat} (h : zJT n K B A M) (hB : B ≤ 2000000000) (ht : t < n) : (∃ A' M', cP_start A (nI t) = .inl (A', M' 45 t) ∧ zJT n K (B + 1) A' M' ∧ M' 41 t = 1) ∨ cP_start A (nI t) = .inr eIS := by
  have hn := zJT_n h
  have hg := c_start h.1 (nI t)
  have h0 := zQR_0 h.1 0
  have j0 : zJ n B 0 false 0 (0, 6) (zup M 0 0 0) := j_ir hn h.2.1 (ir_up (ir_r M) (by unfold zRl; omega))
  have hT := (t_task h ht).1
  have z0 : (zup M 0 0 0) 0 0 = 0 := zup_at M 0 0 0
  have z15 : (zup M 0 0 0) 0 15 = M 0 15 := zup_b (by decide)
  have z13 : (zup M 0 0 0) 0 13 = M 0 13 := zup_b (by decide)
  have z14 : (zup M 0 0 0) 0 14 = M 0 14 := zup_b (by decide)
  unfold mP_start at hg
  generalize zup M 0 0 0 = M0 at h0 j0 hg hT z0 z15 z13 z14
  rw [if_pos hT, zix (show t < 2147483648 by omega)] at hg
  by_cases c : M0 41 t = 0
  · rw [if_pos c] at hg
    by_cases c2 : M0 6 t = 0
    · rw [if_pos c2] at hg
      exact Or.inr (ag_is hg)
    · rw [if_neg c2] at hg
      by_cases c3 : M0 (8 + t) (ix (M0 6 t - 1)) = 0
      · rw [if_pos c3] at hg
        left
        unfold mP_started at hg
        rw [zix (show t < 2147483648 by omega)] at hg
        have j1 : zJ n B 0 false 0 (0, 6) (zup M0 47 t (if 0 < mF_least M0 (nI t) then mF_least M0 (nI t) else 0)) := j_ir hn j0 (ir_up (ir_r _) (by unfold zRl; omega))
        have y1 : ∀ f j, f ≠ 47 → zup M0 47 t (if 0 < mF_least M0 (nI t) then mF_least M0 (nI t) else 0) f j = M0 f j := fun f j hf => zup_a hf
        generalize zup M0 47 t (if 0 < mF_least M0 (nI t) then mF_least M0 (nI t) else 0) = M1 at hg j1 y1
        obtain ⟨r1, r2, r3, r4⟩ := ready_at M1 (u := t) (by omega)
        have j2 := j_ready hn j1 hB ht (by rw [y1 41 t (by decide), c]; decide)
        have o0 : ∀ j, j ≠ 9 → mF_ready M1 (nI t) 0 j = M0 0 j := fun j hj => by
          unfold mF_ready
          rw [zup_b hj, zup_a (by decide), zup_a (by decide), y1 0 j (by decide)]
        obtain ⟨q, e1, e2, n', hq⟩ := ag_in (by decide) hg ((o0 0 (by decide)).trans z0)
        have hnn : n' = n := by
          have e4 := zI_ix hq.1
          rw [o0 15 (by decide), z15] at e4
          exact e4.symm.trans (zI_ix h.1.1)
        subst hnn
        exact ⟨q.1, _, by rw [e1, ← e2], ⟨hq, j2, jd_eq h.2.2 ((o0 13 (by decide)).trans z13) ((o0 14 (by decide)).trans z14)⟩, by rw [r1, if_pos rfl]⟩
      · rw [if_neg c3] at hg
        exact Or.inr (ag_is hg)
  · rw [if_neg c] at hg
    exact Or.inr (ag_is hg)
theorem fin_at {M0 : zSg} (hW : zmW M0) {u : Nat} (hu : u < 16) : mF_finish M0 (nI u) 41 u = 6 ∧ mF_finish M0 (nI u) (52 + u) 4 = M0 0 1 := by
  unfold mF_finish
  try dsimp only
  rw [zix (show u < 2147483648 by omega), show ix (4 : Int32) = 4 from rfl]
  have v01 : zup (zup (mF_leave M0 (nI u)) 41 u 6) 42 u (zup (mF_leave M0 (nI u)) 41 u 6 6 u) 0 1 = M0 0 1 := by rw [zup_a (by decide), zup_a (by decide), leave_o _ _ (by decide)]
  rw [v01]
  have hk : zk M0 (zup (zup (zup (mF_leave M0 (nI u)) 41 u 6) 42 u (zup (mF_leave M0 (nI u)) 41 u 6 6 u)) (52 + u) 4 (M0 0 1)) := zk_cnt (zk_up (zk_up (zk_leave (zk_r hW) _) (f := 41) (by rfl) zst_6) (f := 42) (by rfl) (zr_any _)) hu _ _
  have w1 : zup (zup (zup (mF_leave M0 (nI u)) 41 u 6) 42 u (zup (mF_leave M0 (nI u)) 41 u 6 6 u)) (52 + u) 4 (M0 0 1) 41 u = 6 := by rw [zup_a (by omega), zup_a (by decide), zup_at]
  have w2 : zup (zup (zup (mF_leave M0 (nI u)) 41 u 6) 42 u (zup (mF_leave M0 (nI u)) 41 u 6 6 u)) (52 + u) 4 (M0 0 1) (52 + u) 4 = M0 0 1 := zup_at _ _ _ _
  generalize zup (zup (zup (mF_leave M0 (nI u)) 41 u 6) 42 u (zup (mF_leave M0 (nI u)) 41 u 6 6 u)) (52 + u) 4 (M0 0 1) = M3 at hk w1 w2 ⊢
  have key := q_fold (P := fun k s => zk M0 s ∧ s 41 u = 6 ∧ s (52 + u) 4 = M0 0 1) (fun i s => mB_finish (nI u) i s) 6 ⟨hk, w1, w2⟩ (fun k s hk6 hs => by
    obtain ⟨g1, g2, g3⟩ := hs
    show zk M0 (mB_finish (nI u) k s) ∧ mB_finish (nI u) k s 41 u = 6 ∧ mB_finish (nI u) k s (52 + u) 4 = M0 0 1
    unfold mB_finish
    split
    · exact ⟨zk_free g1 _, (free_st g1.1 (nI k) (by rw [g2]; decide)).1.trans g2, ((ky_free (zKy_r s) (nI k)).2 (52 + u) 4 (by omega)).trans g3⟩
    · exact ⟨g1, g2, g3⟩)
  exact key.2
theorem t_end {t : Nat} (h : zJT n K B A M) (hB : B + 6 ≤ 2000000000) (ht : t < n) : (∃ A' M', cP_end A (nI t) = .inl (A', M 41 t) ∧ ¬ M 41 t = 6 ∧ zJT n K (B + 6) A' M' ∧ M' 41 t = 6 ∧ M' (52 + t) 4 = M 0 1) ∨ cP_end A (nI t) = .inr eIS := by
  have hn := zJT_n h
  have hg := c_end h.1 (nI t)
  have h0 := zQR_0 h.1 0
  have j0 : zJ n B 0 false 0 (0, 6) (zup M 0 0 0) := j_ir hn h.2.1 (ir_up (ir_r M) (by unfold zRl; omega))
  have hT := (t_task h ht).1
  have z0 : (zup M 0 0 0) 0 0 = 0 := zup_at M 0 0 0
  have z15 : (zup M 0 0 0) 0 15 = M 0 15 := zup_b (by decide)
  have z13 : (zup M 0 0 0) 0 13 = M 0 13 := zup_b (by decide)
  have z14 : (zup M 0 0 0) 0 14 = M 0 14 := zup_b (by decide)
  have z01 : (zup M 0 0 0) 0 1 = M 0 1 := zup_b (by decide)
  have z41 : (zup M 0 0 0) 41 t = M 41 t := zup_a (by decide)
  unfold mP_end at hg
  generalize zup M 0 0 0 = M0 at h0 j0 hg hT z0 z15 z13 z14 z01 z41
  rw [if_pos hT, zix (show t < 2147483648 by omega)] at hg
  by_cases c : M0 41 t = 6
  · rw [if_pos c] at hg
    exact Or.inr (ag_is hg)
  · rw [if_neg c] at hg
    left
    obtain ⟨f1, f2⟩ := fin_at (zI_W h0.1) (u := t) (by omega)
    have jf := j_finish hn (zI_W h0.1) (zI_ix h0.1) j0 hB ht (zI_K h0.1).1
    have km := km_finish (zKm_r M0) (t := nI t) (vp_in_nI (by omega) (by decide))
    have kk := zk_finish (zk_r (zI_W h0.1)) (t := nI t) (vp_in_nI (by omega) (by decide))
    obtain ⟨q, e1, e2, n', hq⟩ := ag_in (by decide) hg ((km.1 0 (by decide)).trans z0)
    have hnn : n' = n := by
      have e4 := zI_ix hq.1
      rw [kk.2 0 15 rfl, z15] at e4
      exact e4.symm.trans (zI_ix h.1.1)
    subst hnn
    exact ⟨q.1, _, by rw [e1, ← z41, ← e2], by rw [← z41]; exact c, ⟨hq, jf, jd_eq h.2.2 ((km.1 13 (by decide)).trans z13) ((km.1 14 (by decide)).trans z14)⟩, f1, f2.trans z01⟩
theorem t_signal {q : Nat} (h : zJT n K B A M) (hB : B ≤ 2000000000) (hq : q < 6) : ∃ A' v M', cP_signal A (nI q) = .inl (A', v) ∧ zJT n K (B + 1) A' M' ∧ ((mF_those M 5 (nI q) = 0 ∧ v = (if M 102 q + 1 < 99 then M 102 q + 1 else 99)) ∨ (¬ mF_those M 5 (nI q) = 0 ∧ v = M 102 q)) := by
  have hn := zJT_n h
  have hg := c_signal h.1 (nI q)
  have h0 := zQR_0 h.1 0
  have j0 : zJ n B 0 false 0 (0, 6) (zup M 0 0 0) := j_ir hn h.2.1 (ir_up (ir_r M) (by unfold zRl; omega))
  have z0 : (zup M 0 0 0) 0 0 = 0 := zup_at M 0 0 0
  have z15 : (zup M 0 0 0) 0 15 = M 0 15 := zup_b (by decide)
  have z13 : (zup M 0 0 0) 0 13 = M 0 13 := zup_b (by decide)
  have z14 : (zup M 0 0 0) 0 14 = M 0 14 := zup_b (by decide)
  have z102 : (zup M 0 0 0) 102 q = M 102 q := zup_a (by decide)
  have z41 : ∀ t, (zup M 0 0 0) 41 t = M 41 t := fun t => zup_a (by decide)
  have z49 : ∀ t, (zup M 0 0 0) 49 t = M 49 t := fun t => zup_a (by decide)
  have hT : mF_is (nI q) 0 5 = true := is_y (by rw [nI_rng (by omega), show (0 : Int32).toInt = 0 from rfl]; omega) (by rw [nI_rng (by omega), show (5 : Int32).toInt = 5 from rfl]; omega)
  unfold mP_signal at hg
  generalize zup M 0 0 0 = M0 at h0 j0 hg z0 z15 z13 z14 z102 z41 z49
  rw [if_pos hT, zix (show q < 2147483648 by omega)] at hg
  have js := j_signal hn (zI_ix h0.1) j0 hB hq
  have km := km_signal (zKm_r M0) (nI q)
  have kk := zk_signal (zk_r (zI_W h0.1)) (nI q)
  have hv : (mF_those M 5 (nI q) = 0 ∧ mF_signal M0 (nI q) 102 q = (if M 102 q + 1 < 99 then M 102 q + 1 else 99)) ∨ (¬ mF_those M 5 (nI q) = 0 ∧ mF_signal M0 (nI q) 102 q = M 102 q) := by
    have hx0 := zI_ix h0.1
    unfold mF_signal
    rw [zix (show q < 2147483648 by omega)]
    rcases next_rg M0 5 (nI q) with e | ⟨k, hk, e, hs⟩
    · left
      have hno := next_none (by omega) e
      refine ⟨(those_0 hn (zI_ix h.1.1)).mpr (fun t ht h1 h2 => hno t (by omega) (by rw [z41]; exact h1) (by rw [z49]; exact h2)), ?_⟩
      rw [if_pos e, zup_at, z102]
    · right
      have hkn : k < n := by omega
      have hat : M0 49 k = nI q := by
        have key : mF_next M0 5 (nI q) = -1 ∨ ∃ k, k < 16 ∧ mF_next M0 5 (nI q) = nI k ∧ M0 49 k = nI q := by
          unfold mF_next
          refine q_fold (P := fun _ s => s = -1 ∨ ∃ k, k < 16 ∧ s = nI k ∧ M0 49 k = nI q) (fun i s => mB_next M0 5 (nI q) i s) (ix (M0 0 15)) (Or.inl rfl) (fun k s hk hs => ?_)
          show mB_next M0 5 (nI q) k s = -1 ∨ ∃ k2, k2 < 16 ∧ mB_next M0 5 (nI q) k s = nI k2 ∧ M0 49 k2 = nI q
          unfold mB_next
          by_cases c : M0 41 k = 5
          · rw [if_pos c]
            by_cases c2 : M0 49 k = nI q
            · rw [if_pos c2]
              repeat' split
              all_goals first | exact hs | exact Or.inr ⟨k, by omega, rfl, c2⟩
            · rw [if_neg c2]
              exact hs
          · rw [if_neg c]
            exact hs
        rcases key with g | ⟨k2, hk2, g1, g2⟩
        · rw [e] at g
          exact absurd g (nI_nm k (by omega))
        · have : k = k2 := nI_inj (by omega) hk2 (e.symm.trans g1)
          subst this
          exact g2
      refine ⟨fun e9 => (those_0 hn (zI_ix h.1.1)).mp e9 k hkn (by rw [← z41]; exact hs) (by rw [← z49]; exact hat), ?_⟩
      rw [e, if_neg (nI_nm k (by omega))]
      try dsimp only
      rw [(wake_at _ (show k < 16 by omega)).2.2.2 102 q (by omega), zup_a (by decide), z102]
  obtain ⟨r, e1, e2, n', hq'⟩ := ag_in (by decide) hg ((km.1 0 (by decide)).trans z0)
  have hnn : n' = n := by
    have e4 := zI_ix hq'.1
    rw [kk.2 0 15 rfl, z15] at e4
    exact e4.symm.trans (zI_ix h.1.1)
  subst hnn
  exact ⟨r.1, _, _, by rw [e1, ← e2], ⟨hq', js, jd_eq h.2.2 ((km.1 13 (by decide)).trans z13) ((km.1 14 (by decide)).trans z14)⟩, hv⟩
theorem go_km {m : Nat} {C : zSg} {r : Bool × zSg} (h : zI n K C M) (hK : K ≤ 190000) (hm : m < 3) (e : mT_go 17 M m = some r) : zKm M r.2 := by
  unfold mT_go at e
  by_cases c : M 68 m = -1
  · rw [if_pos c] at e
    cases e
    exact zKm_r M
  · rw [if_neg c] at e
    obtain ⟨u, hu, eu, h2⟩ := zI_run h hm c
    rw [eu] at e
    have hn := zI_n h
    obtain ⟨M1, k1, k2, hc⟩ := zI_ps (p := m) hm hu 15 16 17 K C M h (by omega) eu (by have h16 : (M 6 u).toInt ≤ 16 := (zI_W h 6 u).2; have hb := (zI_T h hu).2.2.2.2.1 (by rw [h2]; decide) (by rw [h2]; decide); omega) (by decide) (by decide)
    rcases hc with ⟨g1, g2, g3, g4, g5⟩ | ⟨g1, g2, g5⟩
    · rw [g5] at e
      cases e
      exact zKm_t k1 (km_runOne (zI_W g2) (by omega) hm (zKm_r M1))
    · rw [g5] at e
      cases e
      exact k1
theorem aft_14 (b : Bool) (k : Nat) (t : Int32) (M : zSg) : mT_aft b k t M 0 14 = M 0 14 + 1 := by
  unfold mT_aft
  try dsimp only
  rw [zup_at, zup_b (by decide), zup_b (by decide)]
  cases b
  · rfl
  · show zup M (71 + ix 0) k t 0 14 + 1 = _
    rw [zup_a (by decide)]
end ZTU
theorem p14_loop {n P cm : Nat} {ds di da : Int32} {C0 M0 : zSg} : ∀ (j m K : Nat) (C M M' : zSg), m + j = P → P ≤ 3 → zI n K C M → K + j ≤ 190000 → ix (M 0 6) = P → ix (M 0 1) % 30 = cm → zLp m cm K ds di da C0 M0 C M → mT_pl 17 j m M = some M' → M' 0 14 = M 0 14 + nI j
  | 0, m, K, C, M, M', hP, _, _, _, _, _, _, e => by
    cases e
    rw [show nI 0 = 0 from rfl, Int32.add_zero]
  | j + 1, m, K, C, M, M', hP, hP3, h, hK, h6, hc, hl, e => by
    subst hc
    obtain ⟨r, r1, r2, r3, r4, r5, r50⟩ := zI_proc (m := m) (f := 17) h (by omega) (by omega) (by omega) (by decide) hl
    rw [mT_pl, r1] at e
    have e2 : mT_pl 17 j (m + 1) (mT_aft r.1 m (M 68 m) r.2) = some M' := e
    have km := go_km h (by omega) (by omega) r1
    have := p14_loop j (m + 1) (K + 1) _ _ M' (by omega) hP3 r2 (by omega) (by rw [r4.2 0 6 rfl]; exact h6) (by rw [r5]) r3 e2
    rw [this, aft_14, km.1 14 (by decide), Int32.add_assoc, Int32.add_comm 1, nI_1]
theorem p13_loop {n P cm : Nat} {ds di da : Int32} {C0 M0 : zSg} : ∀ (j m K : Nat) (C M M' : zSg), m + j = P → P ≤ 3 → zI n K C M → K + j ≤ 190000 → ix (M 0 6) = P → ix (M 0 1) % 30 = cm → zLp m cm K ds di da C0 M0 C M → mT_pl 17 j m M = some M' → ∃ i, i ≤ j ∧ M' 0 13 = M 0 13 + nI i
  | 0, m, K, C, M, M', hP, _, _, _, _, _, _, e => by
    cases e
    exact ⟨0, Nat.le_refl 0, by rw [show nI 0 = 0 from rfl, Int32.add_zero]⟩
  | j + 1, m, K, C, M, M', hP, hP3, h, hK, h6, hc, hl, e => by
    subst hc
    obtain ⟨r, r1, r2, r3, r4, r5, r50⟩ := zI_proc (m := m) (f := 17) h (by omega) (by omega) (by omega) (by decide) hl
    rw [mT_pl, r1] at e
    have e2 : mT_pl 17 j (m + 1) (mT_aft r.1 m (M 68 m) r.2) = some M' := e
    have km := go_km h (by omega) (by omega) r1
    obtain ⟨i, hi, this⟩ := p13_loop j (m + 1) (K + 1) _ _ M' (by omega) hP3 r2 (by omega) (by rw [r4.2 0 6 rfl]; exact h6) (by rw [r5]) r3 e2
    rw [this, (aft_at r.1 m (M 68 m) r.2).2.2, km.1 13 (by decide)]
    by_cases c : (if r.1 = true then M 68 m else r.2 71 m) = -1
    · rw [if_pos c, Int32.add_zero]
      exact ⟨i, by omega, rfl⟩
    · rw [if_neg c]
      exact ⟨i + 1, by omega, by rw [Int32.add_assoc, Int32.add_comm 1, nI_1]⟩
theorem tick_14 {n K c0 : Nat} {ds di da : Int32} {C M M' : zSg} (h : zI n K C M) (hK : K + 4 ≤ 190000) (tr : zTr K ds di da c0 C M) (e : mF_tick 17 M = some M') : M' 0 14 = M 0 14 + nI (ix (M 0 6)) ∧ ∃ i, i ≤ ix (M 0 6) ∧ M' 0 13 = M 0 13 + nI i := by
  have hn := zI_n h
  have b1 := zI_begin h
  have b2 := zI_wakes b1
  have b3 := zI_turns b2
  have hc3 : zKc C (cF_turns (cF_wakes (cF_begin C))) := kc_turns (kc_wakes (kc_begin (zKc_r C)))
  have hm3 : zKm M (mF_expire (mT_c (mT_b (mT_a M)))) := km_expire (km_c (km_b (km_a (zKm_r M))))
  have hz3 : zk M (mF_expire (mT_c (mT_b (mT_a M)))) := zk_expire (zk_tc (zk_tb (zk_ta (zk_r (zI_W h)))))
  have q3 : zTq C M (cF_turns (cF_wakes (cF_begin C))) (mF_expire (mT_c (mT_b (mT_a M)))) := zTq_of (zTq_r C M) hc3 hm3
  obtain ⟨M4, t1, t2, t3⟩ := zI_share b3 q3 (f := 17) (by decide)
  have hz4 : zk M M4 := zk_take hz3 t1
  have eM : mF_tick 17 M = mT_run 17 (mT_fill (mF_sh 29 M4)) := by
    unfold mF_tick
    rw [t1]
    rfl
  rw [eM] at e
  generalize cF_share (cF_turns (cF_wakes (cF_begin C))) = C4 at t2 t3
  obtain ⟨q1, q2, q5, q4, q6⟩ := t3
  obtain ⟨⟨r1, r2, r3, r4⟩, r5, r6⟩ := tr
  generalize hM5 : mT_fill (mF_sh 29 M4) = M5 at e
  have v5 : ∀ f i, M5 f i = if f = 71 ∧ i < 3 then -1 else if 72 ≤ f ∧ f ≤ 100 ∧ i < 3 then M4 (f - 1) i else M4 f i := by
    intro f i
    rw [← hM5, mT_fill_at, mF_sh_at 29 M4 f i (Nat.le_refl _)]
  have hz5 : zk M4 M5 := by
    rw [← hM5]
    exact zk_fill (zk_sh 29 (by decide) (zk_r (zI_W t2)))
  have h5 : zI n K C4 M5 := zI_m t2 hz5 (fun f j hq => by
    unfold zQm at hq
    rw [v5, if_neg (by omega), if_neg (by omega)])
  have m50 : ∀ j, M5 0 j = M4 0 j := fun j => by rw [v5, if_neg (by omega), if_neg (by omega)]
  have m511 : M5 0 11 = M4 0 11 := m50 11
  have m512 : M5 0 12 = M 0 12 := (m50 12).trans (q4 12 (by decide))
  have m513 : M5 0 13 = M 0 13 := (m50 13).trans (q4 13 (by decide))
  have m514 : M5 0 14 = M 0 14 := (m50 14).trans (q4 14 (by decide))
  have hl : zLp 0 (ix (M5 0 1) % 30) K ds di da C4 M5 C4 M5 := by
    refine ⟨⟨?_, ?_, ?_, ?_⟩, fun _ _ _ _ => rfl, fun q hq => absurd hq (Nat.not_lt_zero q), fun q _ hq => by rw [v5, if_pos ⟨rfl, hq⟩], fun _ _ _ _ => rfl, by rw [m514]; exact r6⟩
    · rw [m511]; exact zsub_of q1 r1
    · rw [q2 1 (by decide), m512]; exact r2
    · rw [q2 2 (by decide), m514]; exact r3
    · rw [m512, m513, m514]; exact r4
  obtain ⟨M6, l1, l2, l3, l4, l5, l50⟩ := zI_loop h5 (by omega) (f := 17) (by decide) hl
  have hP := zmW_p3 (zI_W h5)
  have p6 := p14_loop (ix (M5 0 6)) 0 K C4 M5 M6 (by omega) hP h5 (by omega) rfl rfl hl l1
  obtain ⟨i, hi, p7⟩ := p13_loop (ix (M5 0 6)) 0 K C4 M5 M6 (by omega) hP h5 (by omega) rfl rfl hl l1
  have eR : mT_run 17 M5 = some (mT_end M6) := by
    unfold mT_run
    rw [l1]
    rfl
  rw [eR] at e
  cases e
  have ke : mT_end M6 0 14 = M6 0 14 := by
    unfold mT_end
    rw [zup_b (by decide)]
    exact (km_cw (zKm_r M6) (zmW_n16 (zI_W l2))).1 14 (by decide)
  have e6 : M5 0 6 = M 0 6 := (hz5.2 0 6 rfl).trans (hz4.2 0 6 rfl)
  have ke2 : mT_end M6 0 13 = M6 0 13 := by
    unfold mT_end
    rw [zup_b (by decide)]
    exact (km_cw (zKm_r M6) (zmW_n16 (zI_W l2))).1 13 (by decide)
  rw [e6] at p6 hi
  exact ⟨by rw [ke, p6, m514], i, hi, by rw [ke2, p7, m513]⟩
theorem jd_tick {n K B P i : Nat} {A M M' : zSg} (h : zJT n K B A M) (hK : K ≤ 190000) (hP : P ≤ 3) (h14 : M' 0 14 = M 0 14 + nI P) (hi : i ≤ P) (h13 : M' 0 13 = M 0 13 + nI i) : zJd M' := by
  have hn := zJT_n h
  have hs := j_sm hn h.2.1 (by have := zI_K h.1.1; omega)
  have h5 : zsm M n = (M 0 13).toInt + 0 := h.2.1.2.2.2.2.1
  have hr := h.1.2.2.2
  have hd : (M 0 13).toInt ≤ (M 0 14).toInt := h.2.2
  have e1 : (M 0 13 + nI i).toInt = (M 0 13).toInt + i := by
    rw [fb_addI (by rw [nI_rng (by omega)]; omega) (by rw [nI_rng (by omega)]; omega), nI_rng (by omega)]
  have e2 : (M 0 14 + nI P).toInt = (M 0 14).toInt + P := by
    rw [fb_addI (by rw [nI_rng (by omega)]; omega) (by rw [nI_rng (by omega)]; omega), nI_rng (by omega)]
  unfold zJd
  rw [h13, h14, e1, e2]
  omega
/-- j ticks -/
theorem ticks_all {n : Nat} : ∀ (j K B : Nat) (A M : zSg), zJT n K B A M → K + 4 * j ≤ 190000 → B + 100 * j ≤ 2000000000 → ∃ M', mF_ticks 17 j M = some M' ∧ zJT n (K + 4 * j) (B + 100 * j) (cF_ticks A j) M' ∧ M' 0 1 = M 0 1 + nI j ∧ M' 0 6 = M 0 6 ∧ M' 0 14 = M 0 14 + nI (j * ix (M 0 6)) := by
  intro j
  induction j with
  | zero =>
    intro K B A M h _ _
    refine ⟨M, rfl, h, ?_, rfl, ?_⟩
    · rw [show nI 0 = 0 from rfl, Int32.add_zero]
    · rw [Nat.zero_mul, show nI 0 = 0 from rfl, Int32.add_zero]
  | succ j ih =>
    intro K B A M h hK hB
    obtain ⟨M1, e1, h1, t1, k1, c1, z1⟩ := zI_tick h.1.1 (by omega) h.1.2 (f := 17) (by decide)
    have j1 := j_tick h.1.1 (by omega) h.1.2 h.2.1 (by omega) e1
    obtain ⟨a1, i, hi, b1⟩ := tick_14 h.1.1 (by omega) h.1.2 e1
    have d1 := jd_tick h (by omega) (zmW_p3 (zI_W h.1.1)) a1 hi b1
    have p1 : M1 0 6 = M 0 6 := k1.2 0 6 rfl
    obtain ⟨M2, e2, h2, c2, p2, a2⟩ := ih (K + 4) (B + 100) (cF_tick A) M1 ⟨⟨h1, t1⟩, j1, d1⟩ (by omega) (by omega)
    refine ⟨M2, ?_, ?_, ?_, p2.trans p1, ?_⟩
    · rw [mF_ticks, e1]
      exact e2
    · rw [cF_ticks_h, show K + 4 * (j + 1) = K + 4 + 4 * j by omega, show B + 100 * (j + 1) = B + 100 + 100 * j by omega]
      exact h2
    · rw [c2, c1, Int32.add_assoc, Int32.add_comm 1, nI_1]
    · rw [a2, a1, p1, Int32.add_assoc, nI_pl, Nat.add_mul, Nat.one_mul, Nat.add_comm]
theorem t_tick {n K B j : Nat} {A M : zSg} (h : zJT n K B A M) (h1 : 1 ≤ j) (hj : j ≤ 40) (hK : K + 4 * j ≤ 190000) (hB : B + 100 * j ≤ 2000000000) : ∃ M', mF_ticks 17 j M = some M' ∧ cP_tick A (nI j) = .inl (cF_ticks A j, M' 0 1) ∧ zJT n (K + 4 * j) (B + 100 * j) (cF_ticks A j) M' ∧ M' 0 1 = M 0 1 + nI j ∧ M' 0 6 = M 0 6 ∧ M' 0 14 = M 0 14 + nI (j * ix (M 0 6)) := by
  obtain ⟨M', e1, g, c, p, a⟩ := ticks_all j K B A M h hK hB
  refine ⟨M', e1, ?_, g, c, p, a⟩
  unfold cP_tick
  rw [if_neg (by rw [i_lt, nI_rng (by omega), show (1 : Int32).toInt = 1 from rfl]; omega), if_neg (by rw [i_lt, nI_rng (by omega), show (40 : Int32).toInt = 40 from rfl]; omega), zix (by omega), ze_clk (zI_E g.1.1)]
theorem t_idleIn {n K B j : Nat} {A B2 M M' : zSg} (h : zJT n K B A M) (hU : zU B2) (h1 : 1 ≤ j) (hj : j ≤ 40) (hK : K + 4 * j ≤ 190000) (e : mF_ticks 17 j M = some M') : ∃ B3, cP_idleIn A B2 (nI j) = .inl (B3, M' 0 12 - M 0 12) ∧ zU B3 := by
  have hq := zQR_copy h.1 hU
  obtain ⟨M2, e2, g1, g2, _⟩ := ticks_eq (f := 17) (by decide) j K _ _ hq.1 hq.2 hK
  have : M2 = M' := Option.some.inj (e2.symm.trans e)
  subst this
  refine ⟨cF_ticks (cC0 A B2) j, ?_, zU_of g1⟩
  have ht : cR_tried (nI j) = none := by
    rcases tried_eq (nI j) with ⟨_, g, _⟩ | ⟨g, _⟩
    · exact g
    · have : mF_is (nI j) 1 60 = true := is_y (by rw [nI_rng (by omega), show (1 : Int32).toInt = 1 from rfl]; omega) (by rw [nI_rng (by omega), show (60 : Int32).toInt = 60 from rfl]; omega)
      rw [g] at this
      cases this
  unfold cP_idleIn
  rw [ht, zix (by omega)]
  have d1 := g2.1.2.1
  have d2 := h.1.2.1.2.1
  rw [Int32.add_zero] at d1 d2
  rw [d1, d2]
