/-! The relation: what it doesn't look at; single places -/
theorem zup_zup (A : zSg) (a k : Nat) (v w : Int32) : zup (zup A a k v) a k w = zup A a k w := by
  funext x j
  by_cases c : x = a ∧ j = k
  · obtain ⟨rfl, rfl⟩ := c
    rw [zup_at, zup_at]
  · rw [zup_o c, zup_o c, zup_o c]
theorem zup_comm (A : zSg) {a k b j : Nat} (v w : Int32) (h : ¬ (a = b ∧ k = j)) : zup (zup A a k v) b j w = zup (zup A b j w) a k v := by
  funext x y
  by_cases c : x = a ∧ y = k
  · obtain ⟨rfl, rfl⟩ := c
    rw [zup_at, zup_o h, zup_at]
  · rw [zup_o (a := a) (k := k) (A := zup A b j w) c]
    by_cases c2 : x = b ∧ y = j
    · obtain ⟨rfl, rfl⟩ := c2
      rw [zup_at, zup_at]
    · rw [zup_o c2, zup_o c2, zup_o c]
/-- scratch of the class: lent keys, those taken, the trace -/
def zQs (a b : Nat) : Prop := (b = 15 ∧ 15 ≤ a ∧ (a - 15) % 5 = 0) ∨ a = 13 ∨ a = 14 ∨ a = 3 ∨ a = 5 ∨ a = 6 ∨ a = 7
def zCq (C C' : zSg) : Prop := ∀ a b, ¬ zQs a b → C' a b = C a b
/-- scratch of the reference: what it threw, the trace -/
def zQm (f j : Nat) : Prop := (f = 0 ∧ (j = 0 ∨ j = 11 ∨ j = 12 ∨ j = 13 ∨ j = 14)) ∨ (71 ≤ f ∧ f < 101)
def zMq (M M' : zSg) : Prop := ∀ f j, ¬ zQm f j → M' f j = M f j
theorem zQs_t {t b : Nat} (h : b ≠ 15) : ¬ zQs (ztk t) b := by
  unfold zQs ztk
  omega
theorem zQs_y {t b : Nat} : ¬ zQs (ztk t + 4) b := by
  unfold zQs ztk
  omega
theorem zQs_dm {n f j : Nat} (hn : n ≤ 16) (hd : zdm n f j) : ¬ zQs (zph f j).1 (zph f j).2 := by
  intro hq
  have h1 := zps_ph hn hd
  have h2 : zps (zph f j).1 (zph f j).2 = (999, 99) := by
    rcases hq with ⟨hb, ha, hm⟩ | h
    · obtain ⟨t, ht⟩ : ∃ t, (zph f j).1 = ztk t + 0 := ⟨((zph f j).1 - 15) / 5, by unfold ztk; omega⟩
      rw [ht, zps_t t 0 _ (by decide), hb]
      rfl
    · rcases h with h | h | h | h | h | h <;> rw [h] <;> rfl
  rw [h2] at h1
  cases h1
  unfold zdm at hd
  omega
theorem zQm_dm {n f j : Nat} (hn : n ≤ 16) (hd : zdm n f j) : ¬ zQm f j := by
  unfold zdm at hd
  unfold zQm
  omega
theorem zCq_r (C : zSg) : zCq C C := fun _ _ _ => rfl
theorem zCq_t {A B C : zSg} (h : zCq A B) (h2 : zCq B C) : zCq A C := fun a b q => (h2 a b q).trans (h a b q)
theorem zCq_up {C C' : zSg} (h : zCq C C') {a b : Nat} (v : Int32) (hq : zQs a b) : zCq C (zup C' a b v) := fun x y q => by
  rw [zup_o (fun e => q (by rw [e.1, e.2]; exact hq))]
  exact h x y q
theorem zMq_r (M : zSg) : zMq M M := fun _ _ _ => rfl
theorem zMq_t {A B C : zSg} (h : zMq A B) (h2 : zMq B C) : zMq A C := fun a b q => (h2 a b q).trans (h a b q)
theorem zMq_up {M M' : zSg} (h : zMq M M') {f j : Nat} (v : Int32) (hq : zQm f j) : zMq M (zup M' f j v) := fun x y q => by
  rw [zup_o (fun e => q (by rw [e.1, e.2]; exact hq))]
  exact h x y q
theorem zLf_q {C C' : zSg} (h : zLf C C') : zCq C C' := fun a b q => h a b (fun e => q (Or.inl e))
theorem zI_q {n K : Nat} {C M C' : zSg} (h : zI n K C M) (q : zCq C C') : zI n K C' M := by
  have hn := zI_n h
  have ct : ∀ t b, b ≠ 15 → C' (ztk t) b = C (ztk t) b := fun t b hb => q _ _ (zQs_t hb)
  have c0 : C' 0 12 = C 0 12 := q _ _ (by unfold zQs; omega)
  obtain ⟨h1, h2, h3, h4, h5, h6, h7, h8, h9, h10, h11, h12⟩ := h
  refine ⟨h1, fun f j hd => ?_, h3, fun t ht => ?_, h5, fun t ht => ?_, ?_, h8, fun p t hp ht e => ?_, h10, h11, h12⟩
  · rw [q _ _ (zQs_dm hn hd)]; exact h2 f j hd
  · rw [ct t 0 (by decide)]; exact h4 t ht
  · exact zTk_s ht (zsc_r M) (h6 t ht) rfl rfl rfl rfl rfl (ct t 6 (by decide)) (ct t 13 (by decide)) (fun _ => ⟨fun e => e, ct t 9 (by decide), fun j => q _ _ zQs_y, fun _ => rfl⟩)
  · obtain ⟨a, b, c, d⟩ := h7
    refine ⟨by rw [c0]; exact a, b, fun t ht hs => ?_, fun t v ht hv hs hs2 => ?_⟩
    · rw [c0, ct t 14 (by decide)]; exact c t ht hs
    · rw [ct t 14 (by decide), ct v 14 (by decide)]; exact d t v ht hv hs hs2
  · rw [ct t 12 (by decide)]; exact h9 p t hp ht e
theorem zI_m {n K : Nat} {C M M' : zSg} (h : zI n K C M) (k : zk M M') (q : zMq M M') : zI n K C M' := by
  have hn := zI_n h
  have mt : ∀ f j, f ≠ 0 → f < 71 → M' f j = M f j := fun f j h0 h7 => q _ _ (by unfold zQm; omega)
  have m101 : ∀ j, M' 101 j = M 101 j := fun j => q _ _ (by unfold zQm; omega)
  have m10 : M' 0 10 = M 0 10 := q _ _ (by unfold zQm; omega)
  have m1 : M' 0 1 = M 0 1 := q _ _ (by unfold zQm; omega)
  have m6 : M' 0 6 = M 0 6 := q _ _ (by unfold zQm; omega)
  have m15 : M' 0 15 = M 0 15 := q _ _ (by unfold zQm; omega)
  obtain ⟨h1, h2, h3, h4, h5, h6, h7, h8, h9, h10, h11, h12⟩ := h
  refine ⟨by rw [m15]; exact h1, fun f j hd => ?_, k.1, h4, zHi_s h5 hn k.2 (fun t _ _ => mt 41 t (by decide) (by decide)), fun t ht => ?_, ?_, ?_, fun p t hp ht e => ?_, fun t ht e => ?_, fun t ht => ?_, by rw [m1]; exact h12⟩
  · rw [q _ _ (zQm_dm hn hd)]; exact h2 f j hd
  · exact zTk_s (by omega) k.2 (h6 t ht) (mt 41 t (by decide) (by decide)) (mt 42 t (by decide) (by decide)) (mt 43 t (by decide) (by decide)) (mt 48 t (by decide) (by decide)) (mt 49 t (by decide) (by decide)) rfl rfl (fun _ => ⟨fun e => (mt 46 t (by decide) (by decide)).trans e, rfl, fun _ => rfl, fun j => mt (52 + t) j (by omega) (by omega)⟩)
  · obtain ⟨a, b, c, d⟩ := h7
    refine ⟨a, by rw [m10]; exact b, fun t ht hs => ?_, fun t v ht hv hs hs2 => ?_⟩
    · rw [mt 41 t (by decide) (by decide)] at hs
      rw [m10, mt 50 t (by decide) (by decide)]; exact c t ht hs
    · rw [mt 41 t (by decide) (by decide)] at hs
      rw [mt 41 v (by decide) (by decide)] at hs2
      rw [mt 50 t (by decide) (by decide), mt 50 v (by decide) (by decide)]; exact d t v ht hv hs hs2
  · exact zOn_same h8 m6 (fun p _ => mt 68 p (by decide) (by decide)) (fun t _ => by rw [mt 41 t (by decide) (by decide)])
  · rw [mt 68 p (by decide) (by decide)] at e
    rw [mt 69 p (by decide) (by decide)]; exact h9 p t hp ht e
  · rw [mt 41 t (by decide) (by decide)] at e
    rw [mt 49 t (by decide) (by decide), m101]; exact h10 t ht e
  · rw [mt 47 t (by decide) (by decide)]; exact h11 t ht
/-- nothing of any task's changes that the relation looks at beside the equal places -/
theorem zI_mk0 {n K : Nat} {C M C' M' : zSg} (h : zI n K C M) (e : zE n C' M') (k : zk M M') (cT : ∀ t b, b = 0 ∨ b = 6 ∨ b = 12 ∨ b = 13 ∨ b = 14 → C' (ztk t) b = C (ztk t) b) (c12 : C' 0 12 = C 0 12)
    (m : ∀ f j, f = 41 ∨ f = 42 ∨ f = 43 ∨ f = 47 ∨ f = 48 ∨ f = 49 ∨ f = 50 ∨ f = 68 ∨ f = 69 → M' f j = M f j) (m0 : M' 0 1 = M 0 1 ∧ M' 0 10 = M 0 10) (cN : ∀ t, t < 16 → M 41 t = 0 → (M 46 t = 0 → M' 46 t = 0) ∧ C' (ztk t) 9 = C (ztk t) 9 ∧ (∀ j, C' (ztk t + 4) j = C (ztk t + 4) j) ∧ ∀ j, M' (52 + t) j = M (52 + t) j) (B : zBk n M') : zI n K C' M' := by
  have hn := zI_n h
  have m6 : M' 0 6 = M 0 6 := k.2 0 6 rfl
  have m15 : M' 0 15 = M 0 15 := k.2 0 15 rfl
  obtain ⟨h1, h2, h3, h4, h5, h6, h7, h8, h9, h10, h11, h12⟩ := h
  refine ⟨by rw [m15]; exact h1, e, k.1, fun t ht => by rw [cT t 0 (by decide)]; exact h4 t ht, zHi_s h5 hn k.2 (fun t _ _ => m 41 t (by decide)), fun t ht => ?_, ?_, ?_, fun p t hp ht e => ?_, B, fun t ht => ?_, by rw [m0.1]; exact h12⟩
  · exact zTk_s (by omega) k.2 (h6 t ht) (m 41 t (by decide)) (m 42 t (by decide)) (m 43 t (by decide)) (m 48 t (by decide)) (m 49 t (by decide)) (cT t 6 (by decide)) (cT t 13 (by decide)) (cN t ht)
  · obtain ⟨a, b, c, d⟩ := h7
    refine ⟨by rw [c12]; exact a, by rw [m0.2]; exact b, fun t ht hs => ?_, fun t v ht hv hs hs2 => ?_⟩
    · rw [m 41 t (by decide)] at hs
      rw [m0.2, c12, m 50 t (by decide), cT t 14 (by decide)]; exact c t ht hs
    · rw [m 41 t (by decide)] at hs
      rw [m 41 v (by decide)] at hs2
      rw [m 50 t (by decide), m 50 v (by decide), cT t 14 (by decide), cT v 14 (by decide)]; exact d t v ht hv hs hs2
  · exact zOn_same h8 m6 (fun p _ => m 68 p (by decide)) (fun t _ => by rw [m 41 t (by decide)])
  · rw [m 68 p (by decide)] at e
    rw [m 69 p (by decide), cT t 12 (by decide)]; exact h9 p t hp ht e
  · rw [m 47 t (by decide)]; exact h11 t ht
/-- a place that both keep and nothing else speaks of -/
theorem zI_pl {n K a b f j : Nat} {C M : zSg} {v w : Int32} (h : zI n K C M) (hd : zdm n f j) (hp : zph f j = (a, b)) (hf : f = 2 ∨ f = 44 ∨ f = 45 ∨ f = 46 ∨ (52 ≤ f ∧ f < 68) ∨ f = 102 ∨ (f = 0 ∧ j = 9)) (hc : zcfg f j = false) (hr : zr1 w (zlo f j) (zhi f j)) (hv : v = w) (hN : (f = 45 → ¬ M 41 j = 0) ∧ (f = 46 → M 41 j = 0 → w = 0) ∧ ∀ t, t < 16 → f = 52 + t → ¬ M 41 t = 0) : zI n K (zup C a b v) (zup M f j w) := by
  have hn := zI_n h
  have hs : ∀ x y, ¬ zdm n (zps x y).1 (zps x y).2 → ¬ (x = a ∧ y = b) := by
    rintro x y hq ⟨rfl, rfl⟩
    have e2 := zps_ph hn hd
    rw [hp] at e2
    have e3 : zps x y = (f, j) := e2
    rw [e3] at hq
    exact hq hd
  refine zI_mk0 h (zE_u hn (zI_E h) hd hp hv) (zk_up (zk_r (zI_W h)) hc hr) (fun t y hy => ?_) ?_ (fun f2 j2 h2 => ?_) ⟨?_, ?_⟩ (fun t ht h0 => ⟨fun e => ?_, ?_, fun y => ?_, fun y => ?_⟩) (fun t ht e => ?_)
  · exact zup_o (hs (ztk t) y (znd_t (by omega)))
  · exact zup_o (hs 0 12 znd_na)
  · exact zup_o (fun e => by omega)
  · exact zup_o (fun e => by omega)
  · exact zup_o (fun e => by omega)
  · by_cases c : f = 46 ∧ j = t
    · obtain ⟨rfl, rfl⟩ := c
      rw [zup_at]
      exact hN.2.1 rfl h0
    · rw [zup_o (fun e9 => c ⟨e9.1.symm, e9.2.symm⟩)]
      exact e
  · refine zup_o (fun e => ?_)
    have e2 := zps_ph hn hd
    rw [hp] at e2
    have e3 : zps a b = (f, j) := e2
    rw [← e.1, ← e.2] at e3
    have e4 := zps_t t 0 9 (by decide)
    rw [Nat.add_zero] at e4
    rw [e4] at e3
    have e5 : (45, t) = (f, j) := e3
    exact hN.1 (congrArg Prod.fst e5).symm (by rw [← (show t = j from congrArg Prod.snd e5)]; exact h0)
  · refine zup_o (fun e => ?_)
    have e2 := zps_ph hn hd
    rw [hp] at e2
    have e3 : zps a b = (f, j) := e2
    rw [← e.1, ← e.2, zps_t t 4 y (by decide)] at e3
    have e5 : (52 + t, y) = (f, j) := e3
    exact hN.2.2 t ht (congrArg Prod.fst e5).symm h0
  · exact zup_o (fun e => hN.2.2 t ht e.1.symm h0)
  · have g1 : zup M f j w 41 t = M 41 t := zup_o (fun e => by omega)
    have g2 : zup M f j w 49 t = M 49 t := zup_o (fun e => by omega)
    have g3 : zup M f j w 101 (ix (M 49 t)) = M 101 (ix (M 49 t)) := zup_o (fun e => by omega)
    rw [g1] at e
    rw [g2, g3]
    exact zI_B h t ht e
/-- who holds a lock -/
theorem zI_hold {n K q : Nat} {C M : zSg} {v : Int32} (h : zI n K C M) (hq : q < 6) (hv : zr1 v (-1) 15) (hb : v = -1 → ∀ t, t < n → M 41 t = 4 → ¬ M 49 t = nI q) : zI n K (zup C 10 q v) (zup M 101 q v) := by
  have hn := zI_n h
  refine zI_mk0 h (zE_u hn (zI_E h) (f := 101) (by unfold zdm; omega) rfl rfl) (zk_up (zk_r (zI_W h)) (f := 101) (by rfl) hv) (fun t y hy => zup_a (ztk_lo (by decide))) (zup_a (by decide)) (fun f2 j2 h2 => zup_a (by omega)) ⟨rfl, rfl⟩ (fun t ht _ => ⟨fun e => e, zup_a (ztk_lo (by decide)), fun j => zup_a (by unfold ztk; omega), fun j => zup_a (by omega)⟩) (fun t ht e => ?_)
  have e4 : M 41 t = 4 := e
  obtain ⟨r, hr, er⟩ := z49 (zI_W h) t
  show ¬ zup M 101 q v 101 (ix (M 49 t)) = -1
  by_cases c : ix (M 49 t) = q
  · rw [c, zup_at]
    intro e5
    refine hb e5 t ht e4 ?_
    rw [er, zix (by omega)] at c
    rw [er, c]
  · rw [zup_b c]
    exact zI_B h t ht e4
/-- a running task is at another step -/
theorem zI_step {n K u : Nat} {C M : zSg} {s : Int32} (h : zI n K C M) (hu : u < n) (h2 : M 41 u = 2) (hs : 0 ≤ s.toInt ∧ s.toInt < (M 6 u).toInt) : zI n K (zup C (ztk u) 6 s) (zup M 42 u s) := by
  have hn := zI_n h
  have hT := zI_T h hu
  have hA := zI_A h
  refine zI_mk h (Nat.le_refl _) hu (zE_c hn (zE_m (zI_E h) (f := 42) (by unfold zdm; omega)) (znd_t (by decide))) (zk_up (zk_r (zI_W h)) (f := 42) (by rfl) (zr_any _)) (fun t ht => zup_b (by decide)) (fun t htu ht => ⟨rfl, zup_b htu, rfl, rfl, rfl, rfl⟩) (fun t htu ht => ⟨zup_a (ztk_ne htu), zup_b (by decide)⟩) (fun t htu ht => ⟨rfl, zup_a (ztk_ne htu), fun j => zup_a (by unfold ztk; omega), fun j => zup_a (by omega)⟩) ?_ ?_ (zOn_same (zI_O h) rfl (fun _ _ => rfl) (fun _ _ => Iff.rfl)) (zHd_s (zI_D h) (fun p t hp ht e => ⟨e, rfl, zup_b (by decide)⟩)) (zBk_s (zI_W h) (zI_B h) (fun t ht e => ⟨e, rfl⟩) (fun _ _ e => e)) (zI_M h hu) rfl
  · have g41 : zup M 42 u s 41 u = 2 := h2
    have r1 : zup M 42 u s (8 + u) = M (8 + u) := zup_ne _ _ _ (by omega)
    have r2 : zup M 42 u s (25 + u) = M (25 + u) := zup_ne _ _ _ (by omega)
    refine ⟨fun _ => by rw [zup_at, zup_at], fun e => ?_, fun e => ?_, fun e => ?_, fun _ _ => ?_, fun _ _ => ?_, fun q hq => ?_, fun e => ?_⟩
    · rw [g41] at e; exact absurd e (by decide)
    · rw [g41] at e; exact absurd e (by decide)
    · rw [g41] at e; exact absurd e (by decide)
    · rw [zup_at, r1]
      exact ⟨hs, (hT.2.2.2.2.1 (by rw [h2]; decide) (by rw [h2]; decide)).2⟩
    · exact hT.2.2.2.2.2.1 (by rw [h2]; decide) (by rw [h2]; decide)
    · rw [r1, r2]; exact hT.2.2.2.2.2.2.1 q hq
    · rw [g41] at e; exact absurd e (by decide)
  · refine zAr_s (u := u) (Nat.le_refl _) hA (by rw [zup_a (ztk_lo (by decide)).symm]; have := hA.1; omega) rfl (fun t ht htu => ⟨rfl, rfl, zup_b (by decide)⟩) (by show ¬ (M 41 u = 4 ∨ M 41 u = 5); rw [h2]; decide)
/-- a running task becomes something else: its processor is free -/
theorem zI_off {n K u p : Nat} {C M : zSg} (h : zI n K C M) (hu : u < n) (hp : p < 3) (hup : M 68 p = nI u) : zI n K (zup (zup C 12 p (-1)) (ztk u) 5 1) (zup (zup M 68 p (-1)) 41 u 1) := by
  have hn := zI_n h
  have hT := zI_T h hu
  have hA := zI_A h
  have hO := zI_O h
  have h2 : M 41 u = 2 := by
    obtain ⟨t, ht, e, hs⟩ := hO.2.1 p hp (by rw [hup]; exact nI_nm u (by omega))
    have : t = u := nI_inj (by omega) (by omega) (e.symm.trans hup)
    rw [← this]; exact hs
  have c14 : ∀ t b, b ≠ 5 → zup (zup C 12 p (-1)) (ztk u) 5 1 (ztk t) b = C (ztk t) b := fun t b hb => by rw [zup_b hb, zup_a (ztk_lo (by decide))]
  have m41 : ∀ t, zup (zup M 68 p (-1)) 41 u 1 41 t = if t = u then 1 else M 41 t := fun t => rfl
  have m68 : ∀ q, zup (zup M 68 p (-1)) 41 u 1 68 q = if q = p then -1 else M 68 q := fun t => rfl
  have mo : ∀ f j, f ≠ 41 → f ≠ 68 → zup (zup M 68 p (-1)) 41 u 1 f j = M f j := fun f j a b => by rw [zup_a a, zup_a b]
  have h1u : zup (zup M 68 p (-1)) 41 u 1 41 u = 1 := by rw [m41, if_pos rfl]
  refine zI_mk h (Nat.le_refl _) hu (zE_u hn (zE_u hn (zI_E h) (f := 68) (by unfold zdm; omega) rfl rfl) (f := 41) (j := u) (by unfold zdm; omega) rfl rfl) (zk_up (zk_up (zk_r (zI_W h)) (f := 68) (by rfl) zr_m1) (f := 41) (by rfl) zst_1) (fun t ht => c14 t 0 (by decide)) (fun t htu ht => ⟨by rw [m41, if_neg htu], rfl, rfl, rfl, rfl, rfl⟩) (fun t htu ht => ⟨c14 t 6 (by decide), c14 t 13 (by decide)⟩) (fun t htu ht => ⟨rfl, c14 t 9 (by decide), fun j => by rw [zup_a (by unfold ztk; omega), zup_a (by unfold ztk; omega)], fun j => by rw [zup_a (by omega), zup_a (by omega)]⟩) ?_ ?_ ?_ ?_ ?_ (zI_M h hu) rfl
  · have r1 : zup (zup M 68 p (-1)) 41 u 1 (8 + u) = M (8 + u) := by rw [zup_ne _ _ _ (by omega), zup_ne _ _ _ (by omega)]
    have r2 : zup (zup M 68 p (-1)) 41 u 1 (25 + u) = M (25 + u) := by rw [zup_ne _ _ _ (by omega), zup_ne _ _ _ (by omega)]
    refine ⟨fun _ => ?_, fun e => ?_, fun e => ?_, fun e => ?_, fun _ _ => ?_, fun _ _ => ?_, fun q hq => ?_, fun e => ?_⟩
    · rw [c14 u 6 (by decide)]
      exact hT.1 (by rw [h2]; decide)
    · rw [h1u] at e; exact absurd e (by decide)
    · rw [h1u] at e; exact absurd e (by decide)
    · rw [h1u] at e; exact absurd e (by decide)
    · rw [r1]
      exact hT.2.2.2.2.1 (by rw [h2]; decide) (by rw [h2]; decide)
    · exact hT.2.2.2.2.2.1 (by rw [h2]; decide) (by rw [h2]; decide)
    · rw [r1, r2]; exact hT.2.2.2.2.2.2.1 q hq
    · rw [h1u] at e; exact absurd e (by decide)
  · refine zAr_s (u := u) (Nat.le_refl _) hA ?_ rfl (fun t ht htu => ⟨by rw [m41, if_neg htu], rfl, c14 t 14 (by decide)⟩) (by rw [h1u]; decide)
    rw [zup_a (ztk_lo (by decide)).symm, zup_a (by decide)]
    have := hA.1
    omega
  · exact zOn_off hn hO hu hp hup rfl (fun q _ => m68 q) (fun t ht htu => by rw [m41, if_neg htu]) (by rw [h1u]; decide)
  · refine zHd_s (zI_D h) (fun q t hq ht e => ?_)
    rw [m68] at e
    by_cases c : q = p
    · rw [if_pos c] at e
      exact absurd e.symm (nI_nm t (by omega))
    · rw [if_neg c] at e
      exact ⟨e, rfl, c14 t 12 (by decide)⟩
  · refine zBk_s (zI_W h) (zI_B h) (fun t ht e => ?_) (fun _ _ e => e)
    rw [m41] at e
    by_cases c : t = u
    · rw [if_pos c] at e
      exact absurd e (by decide)
    · rw [if_neg c] at e
      exact ⟨e, rfl⟩
theorem zI_run {n K p : Nat} {C M : zSg} (h : zI n K C M) (hp : p < 3) (hm : ¬ M 68 p = -1) : ∃ u, u < n ∧ M 68 p = nI u ∧ M 41 u = 2 := (zI_O h).2.1 p hp hm
