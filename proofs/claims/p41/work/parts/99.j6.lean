/-! A copy stands for the same cells M; what the calls that change something do to both -/
theorem zQR_cp {n K : Nat} {A A2 M : zSg} (h : zQR n K A M) (hc : ∀ a b, zcp a b → A2 a b = A a b) (hU : ∀ t, t < 16 → A2 (ztk t) 0 = nI t) : zQR n K A2 M := by
  have hn := zI_n h.1
  have cT : ∀ t b, t < 16 → 3 ≤ b → b < 16 → A2 (ztk t) b = A (ztk t) b := fun t b ht h1 h2 => hc _ _ (zcp_t ht ⟨h1, h2⟩)
  have c12 : A2 0 12 = A 0 12 := hc _ _ (by unfold zcp; omega)
  have c3 : ∀ b, b < 3 → A2 3 b = A 3 b := fun b hb => hc _ _ (by unfold zcp; omega)
  obtain ⟨⟨h1, h2, h3, h4, h5, h6, ⟨a1, a2, a3, a4⟩, h8, h9, h10, h11, h12⟩, r1, r2, r3⟩ := h
  refine ⟨⟨h1, fun f j hd => by rw [hc _ _ (zcp_dm hn hd)]; exact h2 f j hd, h3, hU, h5, fun t ht => ?_, ⟨by rw [c12]; exact a1, a2, fun t ht hs => ?_, fun t v ht hv hs hs2 => ?_⟩, h8, fun p t hp ht e => ?_, h10, h11, h12⟩, ?_, fun p b hp g1 g2 g3 => ?_, r3⟩
  · obtain ⟨b1, b2, b3, b4, b5, b6, b7, b8⟩ := h6 t ht
    unfold zTk
    rw [cT t 6 ht (by decide) (by decide), cT t 13 ht (by decide) (by decide), cT t 9 ht (by decide) (by decide)]
    refine ⟨b1, b2, b3, b4, b5, b6, b7, fun h0 => ?_⟩
    obtain ⟨g1, g2, g3, g4, g5, g6, g7⟩ := b8 h0
    exact ⟨g1, g2, g3, g4, fun j hj => by rw [hc _ _ (zcp_y ht (by omega))]; exact g5 j hj, by rw [hc _ _ (zcp_y ht (by decide))]; exact g6, by rw [hc _ _ (zcp_y ht (by decide))]; exact g7⟩
  · rw [c12, cT t 14 (by omega) (by decide) (by decide)]
    exact a3 t ht hs
  · rw [cT t 14 (by omega) (by decide) (by decide), cT v 14 (by omega) (by decide) (by decide)]
    exact a4 t v ht hv hs hs2
  · rw [cT t 12 (by omega) (by decide) (by decide)]
    exact h9 p t hp ht e
  · rw [c3 0 (by decide), c3 1 (by decide), c3 2 (by decide)]
    exact r1
  · have hm := Nat.mod_lt (ix (M 0 1) - b) (show 0 < 30 by decide)
    rw [hc (5 + p) _ (by unfold zcp; omega)]
    exact r2 p b hp g1 g2 g3
theorem zQR_copy {n K : Nat} {A B M : zSg} (h : zQR n K A M) (hB : zU B) : zQR n K (cC0 A B) M := zQR_cp h cC0_c (fun t ht => (cC0_U ht).trans (hB t ht))
theorem ag_in {L : List String} {K : Nat} {R : zRs} {A M1 : zSg} {w : Int32} (hL : L.length ≤ 5) (h : zAg L K R A (M1, w)) (h0 : M1 0 0 = 0) : ∃ q, R = .inl q ∧ q.2 = w ∧ ∃ n, zQR n K q.1 M1 := by
  rcases R with q | E
  · exact ⟨q, rfl, h.1, h.2.2⟩
  · obtain ⟨h1, h2, h3⟩ := h
    exfalso
    have hi := List.idxOf_lt_length_of_mem h1
    have e : nI (L.idxOf E + 1) = nI 0 := h2.symm.trans h0
    have := nI_inj (a := L.idxOf E + 1) (b := 0) (by omega) (by decide) e
    omega
theorem zQR_n {n n' K : Nat} {A M M' : zSg} (h : zI n K A M) (h' : ∃ n', zQR n' K A M') (e : M' 0 15 = M 0 15) : zQR n K A M' := by
  obtain ⟨n', h'⟩ := h'
  have e1 := zI_ix h
  have e2 := zI_ix h'.1
  rw [e] at e2
  have : n' = n := e2.symm.trans e1
  subst this
  exact h'
/-- no more ticks run than offered -/
def zJd (M : zSg) : Prop := (M 0 13).toInt ≤ (M 0 14).toInt
theorem jd_eq {M M' : zSg} (h : zJd M) (h13 : M' 0 13 = M 0 13) (h14 : M' 0 14 = M 0 14) : zJd M' := by
  unfold zJd
  rw [h13, h14]
  exact h
theorem jd_ir {M M' : zSg} (h : zJd M) (v : zIr M M') : zJd M' := jd_eq h (v 0 13 (by unfold zRl; omega)) (v 0 14 (by unfold zRl; omega))
/-- between two calls: the machine now, its cells M -/
def zJT (n K B : Nat) (A M : zSg) : Prop := zQR n K A M ∧ zJ n B 0 false 0 (0, 6) M ∧ zJd M
section ZTT
variable {n K B : Nat} {A M : zSg}
theorem zJT_le {K' B' : Nat} (h : zJT n K B A M) (hK : K ≤ K') (hB : B ≤ B') : zJT n K' B' A M := ⟨zQR_le h.1 hK, j_le h.2.1 hB, h.2.2⟩
theorem zJT_n (h : zJT n K B A M) : n ≤ 16 := zI_n h.1.1
/-- a call that is allowed, and writes nothing of the invariant's places -/
theorem t_ir {L : List String} {R : zRs} {M1 : zSg} {w : Int32} (h : zJT n K B A M) (hL : L.length ≤ 5) (hg : zAg L K R A (M1, w)) (h0 : M1 0 0 = 0) (h15 : M1 0 15 = M 0 15) (v : zIr M M1) : ∃ A', R = .inl (A', w) ∧ zJT n K B A' M1 := by
  obtain ⟨q, e1, e2, n', hq⟩ := ag_in hL hg h0
  refine ⟨q.1, ?_, ?_, j_ir (zJT_n h) h.2.1 v, jd_ir h.2.2 v⟩
  · rw [e1, ← e2]
  · have e3 := zI_ix h.1.1
    have e4 := zI_ix hq.1
    rw [h15] at e4
    have : n' = n := e4.symm.trans e3
    subst this
    exact hq
theorem t_setWay {a b c : Int32} (h : zJT n K B A M) (ha : mF_is a 0 2 = true) (hb : mF_is b 1 10 = true) (hc : mF_is c 0 50 = true) : ∃ A' v M', cP_setWay A a b c = .inl (A', v) ∧ zJT n K B A' M' := by
  have hg := c_setWay h.1 a b c
  have eP : mP_setWay M a b c = (zup (zup (zup (zup M 0 0 0) 0 2 a) 0 3 b) 0 4 c, (zup M 0 0 0) 0 2) := by
    unfold mP_setWay
    rw [if_pos ha, if_pos hb, if_pos hc]
  rw [eP] at hg
  obtain ⟨A', e, h'⟩ := t_ir h (by decide) hg rfl rfl (ir_up (ir_up (ir_up (ir_up (ir_r M) (by unfold zRl; omega)) (by unfold zRl; omega)) (by unfold zRl; omega)) (by unfold zRl; omega))
  exact ⟨A', _, _, e, h'⟩
theorem t_setPeriod {a : Int32} (h : zJT n K B A M) (ha : mF_is a 1 50 = true) : ∃ A' v M', cP_setPeriod A a = .inl (A', v) ∧ zJT n K B A' M' := by
  have hg := c_setPeriod h.1 a
  have eP : mP_setPeriod M a = (zup (zup M 0 0 0) 0 5 a, (zup M 0 0 0) 0 5) := by
    unfold mP_setPeriod
    rw [if_pos ha]
  rw [eP] at hg
  obtain ⟨A', e, h'⟩ := t_ir h (by decide) hg rfl rfl (ir_up (ir_up (ir_r M) (by unfold zRl; omega)) (by unfold zRl; omega))
  exact ⟨A', _, _, e, h'⟩
theorem t_setQuota {a b : Int32} (h : zJT n K B A M) (ha : mF_is a 0 3 = true) (hb : mF_is b 0 50 = true) : ∃ A' v M', cP_setQuota A a b = .inl (A', v) ∧ zJT n K B A' M' := by
  have hg := c_setQuota h.1 a b
  have eP : mP_setQuota M a b = (zup (zup M 0 0 0) 1 (ix a) b, (zup M 0 0 0) 1 (ix a)) := by
    unfold mP_setQuota
    rw [if_pos ha, if_pos hb]
  rw [eP] at hg
  obtain ⟨A', e, h'⟩ := t_ir h (by decide) hg rfl rfl (ir_up (ir_up (ir_r M) (by unfold zRl; omega)) (by unfold zRl; omega))
  exact ⟨A', _, _, e, h'⟩
theorem t_task {t : Nat} (h : zJT n K B A M) (ht : t < n) : mF_isTask (zup M 0 0 0) (nI t) = true ∧ cF_rt A (nI t) = some t := by
  have hn := zJT_n h
  rcases task_eq (zQR_0 h.1 0).1 (nI t) with ⟨i, hi, e, h1, h2⟩ | ⟨h1, h2⟩
  · have : t = i := nI_inj (by omega) (by omega) e
    subst this
    exact ⟨h1, h2⟩
  · have e1 : A 0 10 = nI n := (ze_n (zI_E h.1.1)).trans h.1.1.1.2
    rw [rt_nI e1 hn ht] at h2
    cases h2
theorem t_setRank {t : Nat} {r : Int32} (h : zJT n K B A M) (ht : t < n) (hr : mF_is r 0 7 = true) : ∃ A' v M', cP_setRank A (nI t) r = .inl (A', v) ∧ zJT n K B A' M' := by
  have hg := c_setRank h.1 (nI t) r
  have eP : mP_setRank M (nI t) r = (zup (zup M 0 0 0) 3 (ix (nI t)) r, (zup M 0 0 0) 3 (ix (nI t))) := by
    unfold mP_setRank
    rw [if_pos (t_task h ht).1, if_pos hr]
  rw [eP] at hg
  obtain ⟨A', e, h'⟩ := t_ir h (by decide) hg rfl rfl (ir_up (ir_up (ir_r M) (by unfold zRl; omega)) (by unfold zRl; omega))
  exact ⟨A', _, _, e, h'⟩
theorem t_setProcessors {p : Int32} (h : zJT n K B A M) (hp : mF_is p 1 3 = true) : ∃ A' v M', cP_setProcessors A p = .inl (A', v) ∧ zJT n K B A' M' := by
  have hn := zJT_n h
  have hg := c_setProcessors h.1 p
  have eP : mP_setProcessors M p = (zup ((List.range 3).foldl (fun s i => mB_sp i s) (zup M 0 0 0)) 0 6 p, (zup M 0 0 0) 0 6) := by
    unfold mP_setProcessors
    rw [if_pos hp]
  rw [eP] at hg
  have h0 := zQR_0 h.1 0
  have j0 : zJ n B 0 false 0 (0, 6) (zup M 0 0 0) := j_ir hn h.2.1 (ir_up (ir_r M) (by unfold zRl; omega))
  have z0 : (zup M 0 0 0) 0 0 = 0 := zup_at M 0 0 0
  have z15 : (zup M 0 0 0) 0 15 = M 0 15 := zup_b (by decide)
  have z13 : (zup M 0 0 0) 0 13 = M 0 13 := zup_b (by decide)
  have z14 : (zup M 0 0 0) 0 14 = M 0 14 := zup_b (by decide)
  generalize zup M 0 0 0 = M0 at h0 j0 hg z0 z15 z13 z14
  obtain ⟨s1, s2, s3⟩ := sp_at hn (zI_O h0.1)
  have key : zJ n B 0 false 0 (0, 6) ((List.range 3).foldl (fun s i => mB_sp i s) M0) := by
    have k2 := q_fold (P := fun _ s => zJ n B 0 false 0 (0, 6) s ∧ zOn n s) (fun i s => mB_sp i s) 3 ⟨j0, zI_O h0.1⟩ (fun k s hk hs => by
      obtain ⟨g1, g2⟩ := hs
      show zJ n B 0 false 0 (0, 6) (mB_sp k s) ∧ zOn n (mB_sp k s)
      unfold mB_sp
      by_cases c1 : s 68 k = -1
      · rw [if_pos c1]
        exact ⟨g1, g2⟩
      · rw [if_neg c1]
        obtain ⟨u, hu, eu, h2⟩ := g2.2.1 k (by omega) c1
        rw [eu, zix (show u < 2147483648 by omega)]
        have e41 : ∀ t, zup (zup s 41 u 1) 68 k (-1) 41 t = if t = u then 1 else s 41 t := fun t => by
          rw [zup_a (by decide)]
          by_cases c9 : t = u
          · rw [c9, zup_at, if_pos rfl]
          · rw [zup_b c9, if_neg c9]
        refine ⟨j_12 (u := u) (p := k) (v := -1) hn g1 (Or.inl rfl) (Or.inr h2) e41 (fun f j _ a b => by rw [zup_a b, zup_a a]), zOn_off hn g2 hu (p := k) (by omega) eu (by rw [zup_a (by decide), zup_a (by decide)]) (fun q _ => ?_) (fun t _ ht => by rw [e41, if_neg ht]) (by rw [e41, if_pos rfl]; decide)⟩
        by_cases c9 : q = k
        · rw [c9, zup_at, if_pos rfl]
        · rw [zup_b c9, if_neg c9, zup_a (by decide)])
    exact k2.1
  have e0 : ∀ j, j ≠ 6 → zup ((List.range 3).foldl (fun s i => mB_sp i s) M0) 0 6 p 0 j = M0 0 j := fun j hj => by
    rw [zup_b hj, s3 0 j (by decide) (by decide)]
  obtain ⟨q, e1, e2, n', hq⟩ := ag_in (by decide) hg ((e0 0 (by decide)).trans z0)
  refine ⟨q.1, q.2, zup ((List.range 3).foldl (fun s i => mB_sp i s) M0) 0 6 p, e1, ?_, j_ir hn key (ir_up (ir_r _) (by unfold zRl; omega)), jd_eq h.2.2 ((e0 13 (by decide)).trans z13) ((e0 14 (by decide)).trans z14)⟩
  have e3 := zI_ix h.1.1
  have e4 := zI_ix hq.1
  have e5 : zup ((List.range 3).foldl (fun s i => mB_sp i s) M0) 0 6 p 0 15 = M 0 15 := (e0 15 (by decide)).trans z15
  have e6 : ix (zup ((List.range 3).foldl (fun s i => mB_sp i s) M0) 0 6 p 0 15) = n' := e4
  rw [e5] at e6
  have : n' = n := e6.symm.trans e3
  subst this
  exact hq
/-- nobody holds what he isn't there to hold -/
theorem j_hold (h : zJT n K B A M) {q : Nat} (hq : q < 6) : M 101 q = -1 ∨ ∃ t, t < n ∧ M 101 q = nI t ∧ ¬ M 41 t = 0 ∧ ¬ M 41 t = 6 ∧ (M 41 t = 4 → ¬ M 49 t = nI q) := by
  by_cases c : M 101 q = -1
  · exact Or.inl c
  · right
    obtain ⟨t, ht, e⟩ := zhold (zI_W h.1.1) c
    rcases h.2.1.2.1 q t hq ht e with g | g
    · exact absurd g.2 (by show ¬ 6 ≤ q; omega)
    · exact ⟨t, zI_lt h.1.1 ht g.1, e, g⟩
theorem t_addTask {a b c : Int32} (h : zJT n K B A M) (hn16 : n < 16) (ha : mF_is a 0 7 = true) (hb : mF_is b 0 3 = true) (hc : mF_is c 1 5 = true) : ∃ A' v M', cP_addTask A a b c = .inl (A', v) ∧ zJT (n + 1) K B A' M' ∧ (∀ t, M' 41 t = M 41 t) ∧ ∀ t, M' 6 t = M 6 t := by
  have hg := c_addTask h.1 a b c
  have h0 := zQR_0 h.1 0
  have hn := zJT_n h
  have j0 : zJ n B 0 false 0 (0, 6) (zup M 0 0 0) := j_ir hn h.2.1 (ir_up (ir_r M) (by unfold zRl; omega))
  have z0 : (zup M 0 0 0) 0 0 = 0 := zup_at M 0 0 0
  have z41 : ∀ t, (zup M 0 0 0) 41 t = M 41 t := fun t => zup_a (by decide)
  have z6 : ∀ t, (zup M 0 0 0) 6 t = M 6 t := fun t => zup_a (by decide)
  have z13 : (zup M 0 0 0) 0 13 = M 0 13 := zup_b (by decide)
  have z14 : (zup M 0 0 0) 0 14 = M 0 14 := zup_b (by decide)
  have e15 : (zup M 0 0 0) 0 15 = nI n := h0.1.1.2
  have eP : mP_addTask M a b c = (mP_added (zup M 0 0 0) a b c, (mP_added (zup M 0 0 0) a b c) 0 15 - 1) := by
    unfold mP_addTask
    rw [if_pos ha, if_pos hb, if_pos hc, if_neg (by rw [e15]; intro e; have := nI_inj (a := n) (b := 16) ; exact absurd (congrArg Int32.toInt e) (by rw [nI_rng (by omega), show (16 : Int32).toInt = 16 from rfl]; omega))]
  rw [eP] at hg
  generalize zup M 0 0 0 = M0 at h0 j0 hg z0 z41 z6 e15 z13 z14
  have eM : mP_added M0 a b c = zup (zup (zup (zup (zup (zup (zup M0 3 n a) 4 n b) 5 n c) 45 n (-1)) (52 + n) 3 (-1)) (52 + n) 4 (-1)) 0 15 (nI (n + 1)) := by
    have x3 : ix (3 : Int32) = 3 := rfl
    have x4 : ix (4 : Int32) = 4 := rfl
    unfold mP_added
    dsimp only
    rw [e15, zix (by omega), zup_a (x := 0) (a := 3) (by decide), e15, zix (by omega)]
    rw [zup_a (x := 0) (a := 4) (by decide), zup_a (x := 0) (a := 3) (by decide), e15, zix (by omega)]
    rw [zup_a (x := 0) (a := 5) (by decide), zup_a (x := 0) (a := 4) (by decide), zup_a (x := 0) (a := 3) (by decide), e15, zix (by omega)]
    rw [zup_a (x := 0) (a := 45) (by decide), zup_a (x := 0) (a := 5) (by decide), zup_a (x := 0) (a := 4) (by decide), zup_a (x := 0) (a := 3) (by decide), e15, zix (by omega)]
    rw [zup_a (x := 0) (a := 52 + n) (by omega), zup_a (x := 0) (a := 45) (by decide), zup_a (x := 0) (a := 5) (by decide), zup_a (x := 0) (a := 4) (by decide), zup_a (x := 0) (a := 3) (by decide), e15, zix (by omega), x3, x4]
    rw [zup_a (x := 0) (a := 52 + n) (by omega), zup_a (x := 0) (a := 52 + n) (by omega), zup_a (x := 0) (a := 45) (by decide), zup_a (x := 0) (a := 5) (by decide), zup_a (x := 0) (a := 4) (by decide), zup_a (x := 0) (a := 3) (by decide), e15, nI_1]
  rw [eM] at hg
  have v : ∀ f j, ¬ (f = 0 ∧ j = 15) → ¬ (f = 52 + n ∧ (j = 3 ∨ j = 4)) → ¬ (f = 45 ∧ j = n) → f ≠ 3 → f ≠ 4 → f ≠ 5 → zup (zup (zup (zup (zup (zup (zup M0 3 n a) 4 n b) 5 n c) 45 n (-1)) (52 + n) 3 (-1)) (52 + n) 4 (-1)) 0 15 (nI (n + 1)) f j = M0 f j := fun f j a1 a2 a3 a4 a5 a6 => by
    rw [zup_o a1, zup_o (by omega), zup_o (by omega), zup_o a3, zup_a a6, zup_a a5, zup_a a4]
  have v3 : zup (zup (zup (zup (zup (zup (zup M0 3 n a) 4 n b) 5 n c) 45 n (-1)) (52 + n) 3 (-1)) (52 + n) 4 (-1)) 0 15 (nI (n + 1)) (52 + n) 3 = -1 := by
    rw [zup_a (by omega), zup_b (by decide), zup_at]
  have v4 : zup (zup (zup (zup (zup (zup (zup M0 3 n a) 4 n b) 5 n c) 45 n (-1)) (52 + n) 3 (-1)) (52 + n) 4 (-1)) 0 15 (nI (n + 1)) (52 + n) 4 = -1 := by
    rw [zup_a (by omega), zup_at]
  have v15 : zup (zup (zup (zup (zup (zup (zup M0 3 n a) 4 n b) 5 n c) 45 n (-1)) (52 + n) 3 (-1)) (52 + n) 4 (-1)) 0 15 (nI (n + 1)) 0 15 = nI (n + 1) := zup_at _ _ _ _
  generalize zup (zup (zup (zup (zup (zup (zup M0 3 n a) 4 n b) 5 n c) 45 n (-1)) (52 + n) 3 (-1)) (52 + n) 4 (-1)) 0 15 (nI (n + 1)) = M' at hg v v3 v4 v15
  obtain ⟨q, e1, e2, n', hq⟩ := ag_in (by decide) hg ((v 0 0 (by omega) (by omega) (by omega) (by decide) (by decide) (by decide)).trans z0)
  have hnn : n' = n + 1 := by
    have e4 : ix (M' 0 15) = n' := zI_ix hq.1
    rw [v15, zix (by omega)] at e4
    exact e4.symm
  subst hnn
  have e41 : ∀ t, M' 41 t = M0 41 t := fun t => v 41 t (by omega) (by omega) (by omega) (by decide) (by decide) (by decide)
  have e49 : ∀ t, M' 49 t = M0 49 t := fun t => v 49 t (by omega) (by omega) (by omega) (by decide) (by decide) (by decide)
  have n41 : M0 41 n = 0 := zI_H h0.1 (Nat.le_refl n) hn16
  have nT := (h0.1.2.2.2.2.2.1 n hn16).2.2.2.2.2.2.2 n41
  obtain ⟨j1, j2, j3, j4, j5, j6⟩ := j0
  have ec : ∀ t j, t < 16 → ¬ (t = n ∧ (j = 3 ∨ j = 4)) → zc M' t j = zc M0 t j := fun t j ht hne => by
    unfold zc
    rw [v (52 + t) j (by omega) (by omega) (by omega) (by omega) (by omega) (by omega)]
  have cn : ∀ j, j < 3 → zc M0 n j = 0 := fun j hj => by
    unfold zc
    rw [(nT.2.2.2.2.1 j hj).2]
    rfl
  have hck := zI_K h0.1
  have e01 : M' 0 1 = M0 0 1 := v 0 1 (by omega) (by omega) (by omega) (by decide) (by decide) (by decide)
  have w13 : M' 0 13 = M0 0 13 := v 0 13 (by omega) (by omega) (by omega) (by decide) (by decide) (by decide)
  have w14 : M' 0 14 = M0 0 14 := v 0 14 (by omega) (by omega) (by omega) (by decide) (by decide) (by decide)
  refine ⟨q.1, q.2, M', e1, ⟨hq, ⟨fun t ht => ?_, ?_, fun q2 t hq2 ht a1 a2 => ?_, ⟨?_, fun t ht a1 a2 => ?_⟩, ?_, ?_⟩, jd_eq h.2.2 (w13.trans z13) (w14.trans z14)⟩, fun t => (e41 t).trans (z41 t), fun t => (v 6 t (by omega) (by omega) (by omega) (by decide) (by decide) (by decide)).trans (z6 t)⟩
  · by_cases c9 : t = n
    · subst c9
      rw [ec t 0 (by omega) (by omega), ec t 1 (by omega) (by omega), ec t 2 (by omega) (by omega), cn 0 (by decide), cn 1 (by decide), cn 2 (by decide), e41, e01, n41]
      have w3 : zc M' t 3 = -1 := by unfold zc; rw [v3]; rfl
      have w4 : zc M' t 4 = -1 := by unfold zc; rw [v4]; rfl
      rw [w3, w4]
      refine ⟨by omega, by omega, ⟨fun e => by omega, fun e => absurd e (by decide)⟩, Or.inl (by omega)⟩
    · obtain ⟨b0, b1, b2, b3⟩ := j1 t (by omega)
      rw [ec t 0 (by omega) (by omega), ec t 1 (by omega) (by omega), ec t 2 (by omega) (by omega), ec t 3 (by omega) (by omega), ec t 4 (by omega) (by omega), e41, e01]
      refine ⟨b0, b1, b2, b3.elim Or.inl (fun x => absurd x.2.1 (by decide))⟩
  · have g : zJl n (0, 6) M' := jl_mv j2 (fun q2 _ => v 101 q2 (by omega) (by omega) (by omega) (by decide) (by decide) (by decide)) (fun t _ => Or.inl ⟨e41 t, e49 t⟩)
    exact g
  · rw [e41] at a1
    rw [e49] at a2
    rw [v 102 q2 (by omega) (by omega) (by omega) (by decide) (by decide) (by decide)]
    by_cases c9 : t = n
    · rw [c9, n41] at a1
      exact absurd a1 (by decide)
    · exact j3 q2 t hq2 (by omega) a1 a2
  · rw [v 0 9 (by omega) (by omega) (by omega) (by decide) (by decide) (by decide)]
    exact j4.1
  · rw [e41] at a1 a2
    by_cases c9 : t = n
    · rw [c9, n41] at a1
      exact absurd rfl a1
    · rw [v 45 t (by omega) (by omega) (by omega) (by decide) (by decide) (by decide)]
      exact j4.2 t (by omega) a1 a2
  · show zsm M' n + zc M' n 0 = (M' 0 13).toInt + 0
    rw [zsm_cg n (fun t ht => ec t 0 (by omega) (by omega)), ec n 0 (by omega) (by omega), cn 0 (by decide), v 0 13 (by omega) (by omega) (by omega) (by decide) (by decide) (by decide), j5]
    omega
  · rcases j6 with g | g
    · exact Or.inl (e01.trans g)
    · refine Or.inr (fun p hp => ?_)
      rw [v 71 p (by omega) (by omega) (by omega) (by decide) (by decide) (by decide)]
      rcases g p hp with g | ⟨t, ht, g⟩
      · exact Or.inl g
      · exact Or.inr ⟨t, by omega, g⟩
theorem t_addStep {t L : Nat} {a b : Int32} (h : zJT n K B A M) (ht : t < n) (h41 : M 41 t = 0) (hl : M 6 t = nI L) (hL : L < 16) (hs : cF_isStep a b = true) : ∃ A' v M', cP_addStep A (nI t) a b = .inl (A', v) ∧ zJT n K B A' M' ∧ (∀ u, M' 41 u = M 41 u) ∧ ∀ u, M' 6 u = if u = t then nI (L + 1) else M 6 u := by
  have hn := zJT_n h
  have hg := c_addStep h.1 (nI t) a b
  obtain ⟨s2, s3⟩ : mF_is a 0 6 = true ∧ mF_isNum a b = true := by
    rcases step_ok a b with ⟨_, s2, s3, _⟩ | ⟨s1, _⟩
    · exact ⟨s2, s3⟩
    · exact absurd hs s1
  have eP : mP_addStep M (nI t) a b = (mP_stepped (zup M 0 0 0) (nI t) a b, (mP_stepped (zup M 0 0 0) (nI t) a b) 6 (ix (nI t))) := by
    unfold mP_addStep
    rw [if_pos (t_task h ht).1, if_pos s2, if_pos s3, zix (by omega), if_pos (by rw [zup_a (by decide)]; exact h41), if_neg (by rw [zup_a (by decide), hl]; intro e; exact absurd (congrArg Int32.toInt e) (by rw [nI_rng (by omega), show (16 : Int32).toInt = 16 from rfl]; omega))]
  have eS : mP_stepped (zup M 0 0 0) (nI t) a b = zup (zup (zup (zup M 0 0 0) (8 + t) L a) (25 + t) L b) 6 t (nI (L + 1)) := by
    unfold mP_stepped
    dsimp only
    rw [zix (show t < 2147483648 by omega), zup_a (x := 6) (a := 0) (by decide), hl, zix (show L < 2147483648 by omega), zup_a (x := 6) (a := 8 + t) (by omega), zup_a (x := 6) (a := 0) (by decide), hl, zix (show L < 2147483648 by omega), zup_a (x := 6) (a := 25 + t) (by omega), zup_a (x := 6) (a := 8 + t) (by omega), zup_a (x := 6) (a := 0) (by decide), hl, nI_1]
  rw [eP, eS] at hg
  obtain ⟨A', e, h'⟩ := t_ir h (by decide) hg (by rw [zup_a (by decide), zup_a (by omega), zup_a (by omega), zup_at]) (by rw [zup_a (by decide), zup_a (by omega), zup_a (by omega), zup_b (by decide)]) (ir_up (ir_up (ir_up (ir_up (ir_r M) (by unfold zRl; omega)) (by unfold zRl; omega)) (by unfold zRl; omega)) (by unfold zRl; omega))
  refine ⟨A', _, _, e, h', fun u => by rw [zup_a (by decide), zup_a (by omega), zup_a (by omega), zup_a (by decide)], fun u => ?_⟩
  by_cases c : u = t
  · rw [c, zup_at, if_pos rfl]
  · rw [zup_b c, if_neg c, zup_a (by omega), zup_a (by omega), zup_a (by decide)]
end ZTT
