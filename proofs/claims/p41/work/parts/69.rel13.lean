/-! The relation: a tick that is run -/
theorem zI_time {n K u : Nat} {C M : zSg} {τ : Int32} (h : zI n K C M) (hu : u < n) (hτ : 0 ≤ τ.toInt ∧ τ.toInt ≤ 840 * ((K + 1 : Nat) : Int)) : zI n (K + 1) (zup C (ztk u) 11 τ) (zup M 47 u τ) := by
  have hn := zI_n h
  have h1 := zI_le h (Nat.le_succ K)
  have hT := zI_T h hu
  have c1 : ∀ t b, b ≠ 11 → zup C (ztk u) 11 τ (ztk t) b = C (ztk t) b := fun t b hb => zup_b hb
  refine zI_mk h (Nat.le_succ _) hu (zE_u hn (zI_E h) (f := 47) (by unfold zdm; omega) rfl rfl) (zk_up (zk_r (zI_W h)) (f := 47) (by rfl) (zr_any _)) (fun t ht => c1 t 0 (by decide)) (fun t htu ht => ⟨rfl, rfl, rfl, zup_b htu, rfl, rfl⟩) (fun t htu ht => ⟨c1 t 6 (by decide), c1 t 13 (by decide)⟩) (fun t htu ht => ⟨rfl, c1 t 9 (by decide), fun j => zup_a (by unfold ztk; omega), fun j => zup_a (by omega)⟩) (zTk_s (by omega) (zk_up (zk_r (zI_W h)) (f := 47) (by rfl) (zr_any _)).2 hT rfl rfl rfl rfl rfl (c1 u 6 (by decide)) (c1 u 13 (by decide)) (fun _ => ⟨fun e => e, c1 u 9 (by decide), fun j => zup_a (by unfold ztk; omega), fun j => zup_a (by omega)⟩)) ?_ (zOn_same (zI_O h) rfl (fun _ _ => rfl) (fun _ _ => Iff.rfl)) (zHd_s (zI_D h) (fun p t hp ht e => ⟨e, rfl, c1 t 12 (by decide)⟩)) (zBk_s (zI_W h) (zI_B h) (fun t ht e => ⟨e, rfl⟩) (fun _ _ e => e)) (by rw [zup_at]; exact hτ) rfl
  obtain ⟨a1, a2, a3, a4⟩ := zI_A h1
  have e0 : zup C (ztk u) 11 τ 0 12 = C 0 12 := zup_b (by decide)
  refine ⟨by rw [e0]; exact a1, a2, fun t ht hs => ?_, fun t v ht hv hs hs2 => ?_⟩
  · rw [e0, c1 t 14 (by decide)]
    exact a3 t ht hs
  · rw [c1 t 14 (by decide), c1 v 14 (by decide)]
    exact a4 t v ht hv hs hs2
theorem zI_had {n K u p : Nat} {C M : zSg} {v : Int32} (h : zI n K C M) (hu : u < n) (hp : p < 3) (hup : M 68 p = nI u) : zI n K (zup C (ztk u) 12 v) (zup M 69 p v) := by
  have hn := zI_n h
  have hT := zI_T h hu
  have c1 : ∀ t b, b ≠ 12 → zup C (ztk u) 12 v (ztk t) b = C (ztk t) b := fun t b hb => zup_b hb
  refine zI_mk h (Nat.le_refl _) hu (zE_c hn (zE_m (zI_E h) (f := 69) (by unfold zdm; omega)) (znd_t (by decide))) (zk_up (zk_r (zI_W h)) (f := 69) (by rfl) (zr_any _)) (fun t ht => c1 t 0 (by decide)) (fun t htu ht => ⟨rfl, rfl, rfl, rfl, rfl, rfl⟩) (fun t htu ht => ⟨c1 t 6 (by decide), c1 t 13 (by decide)⟩) (fun t htu ht => ⟨rfl, c1 t 9 (by decide), fun j => zup_a (by unfold ztk; omega), fun j => zup_a (by omega)⟩) (zTk_s (by omega) (zk_up (zk_r (zI_W h)) (f := 69) (by rfl) (zr_any _)).2 hT rfl rfl rfl rfl rfl (c1 u 6 (by decide)) (c1 u 13 (by decide)) (fun _ => ⟨fun e => e, c1 u 9 (by decide), fun j => zup_a (by unfold ztk; omega), fun j => zup_a (by omega)⟩)) ?_ (zOn_same (zI_O h) rfl (fun _ _ => rfl) (fun _ _ => Iff.rfl)) ?_ (zBk_s (zI_W h) (zI_B h) (fun t ht e => ⟨e, rfl⟩) (fun _ _ e => e)) (zI_M h hu) rfl
  · obtain ⟨a1, a2, a3, a4⟩ := zI_A h
    have e0 : zup C (ztk u) 12 v 0 12 = C 0 12 := zup_a (ztk_lo (by decide)).symm
    refine ⟨by rw [e0]; exact a1, a2, fun t ht hs => ?_, fun t w ht hv hs hs2 => ?_⟩
    · rw [e0, c1 t 14 (by decide)]
      exact a3 t ht hs
    · rw [c1 t 14 (by decide), c1 w 14 (by decide)]
      exact a4 t w ht hv hs hs2
  · intro q t hq ht e
    have e2 : M 68 q = nI t := e
    by_cases c : q = p
    · have : u = t := nI_inj (by omega) (by omega) (by rw [← hup, ← e2, c])
      rw [c, ← this, zup_at, zup_at]
    · have htu : t ≠ u := fun e9 => c ((zI_O h).2.2.1 q p hq hp (by rw [e2, hup, e9]) (by rw [e2]; exact nI_nm t (by omega)))
      rw [zup_b c, zup_a (ztk_ne htu)]
      exact zI_D h q t hq ht e2
/-- a running task begins its next round -/
theorem zI_nr {n K u : Nat} {C M : zSg} {a b g : Int32} (h : zI n K C M) (hu : u < n) (h2 : M 41 u = 2) (hb : 0 ≤ b.toInt ∧ b.toInt < (M 6 u).toInt) (hg : g.toInt < (M 5 u).toInt) : zI n K (zup (zup (zup C (ztk u) 6 a) (ztk u) 6 b) (ztk u) 8 g) (zup (zup (zup M 42 u a) 43 u g) 42 u b) := by
  have hn := zI_n h
  have hT := zI_T h hu
  rw [zup_zup, zup_comm M a g (by omega), zup_zup]
  have e1 : zE n (zup (zup C (ztk u) 6 b) (ztk u) 8 g) (zup (zup M 43 u g) 42 u b) := zE_m (zE_u hn (zE_c hn (zI_E h) (znd_t (by decide))) (f := 43) (by unfold zdm; omega) rfl rfl) (by unfold zdm; omega)
  have k : zk M (zup (zup M 43 u g) 42 u b) := zk_up (zk_up (zk_r (zI_W h)) (f := 43) (by rfl) (zr_any _)) (f := 42) (by rfl) (zr_any _)
  have cb : ∀ t y, y ≠ 6 → y ≠ 8 → zup (zup C (ztk u) 6 b) (ztk u) 8 g (ztk t) y = C (ztk t) y := fun t y h1 h2 => by rw [zup_b h2, zup_b h1]
  have m42 : ∀ t, zup (zup M 43 u g) 42 u b 42 t = if t = u then b else M 42 t := fun t => rfl
  have m43 : ∀ t, zup (zup M 43 u g) 42 u b 43 t = if t = u then g else M 43 t := fun t => rfl
  refine zI_mk h (Nat.le_refl _) hu e1 k (fun t ht => cb t 0 (by decide) (by decide)) (fun t htu ht => ⟨rfl, by rw [m42, if_neg htu], by rw [m43, if_neg htu], rfl, rfl, rfl⟩) (fun t htu ht => ⟨by rw [zup_b (by decide), zup_a (ztk_ne htu)], cb t 13 (by decide) (by decide)⟩) (fun t htu ht => ⟨rfl, cb t 9 (by decide) (by decide), fun j => by rw [zup_a (by unfold ztk; omega), zup_a (by unfold ztk; omega)], fun j => by rw [zup_a (by omega), zup_a (by omega)]⟩) ?_ ?_ (zOn_same (zI_O h) rfl (fun _ _ => rfl) (fun _ _ => Iff.rfl)) (zHd_s (zI_D h) (fun p t hp ht e => ⟨e, rfl, cb t 12 (by decide) (by decide)⟩)) (zBk_s (zI_W h) (zI_B h) (fun t ht e => ⟨e, rfl⟩) (fun _ _ e => e)) (zI_M h hu) rfl
  · have g41 : zup (zup M 43 u g) 42 u b 41 u = 2 := h2
    have r1 : zup (zup M 43 u g) 42 u b (8 + u) = M (8 + u) := by rw [zup_ne _ _ _ (by omega), zup_ne _ _ _ (by omega)]
    have r2 : zup (zup M 43 u g) 42 u b (25 + u) = M (25 + u) := by rw [zup_ne _ _ _ (by omega), zup_ne _ _ _ (by omega)]
    refine ⟨fun _ => by rw [zup_b (by decide), zup_at, zup_at], fun e => ?_, fun e => ?_, fun e => ?_, fun _ _ => ?_, fun _ _ => ?_, fun q hq => ?_, fun e => ?_⟩
    · rw [g41] at e; exact absurd e (by decide)
    · rw [g41] at e; exact absurd e (by decide)
    · rw [g41] at e; exact absurd e (by decide)
    · rw [zup_at, r1]
      exact ⟨hb, (hT.2.2.2.2.1 (by rw [h2]; decide) (by rw [h2]; decide)).2⟩
    · rw [m43, if_pos rfl]
      exact hg
    · rw [r1, r2]; exact hT.2.2.2.2.2.2.1 q hq
    · rw [g41] at e; exact absurd e (by decide)
  · have hA := zI_A h
    refine zAr_s (u := u) (Nat.le_refl _) hA (by rw [zup_b (by decide), zup_b (by decide)]; have := hA.1; omega) rfl (fun t ht htu => ⟨rfl, rfl, cb t 14 (by decide) (by decide)⟩) (by show ¬ (M 41 u = 4 ∨ M 41 u = 5); rw [h2]; decide)
theorem zshare : ∀ r, r < 8 → 0 ≤ (840 / (8 - nI r) : Int32).toInt ∧ (840 / (8 - nI r) : Int32).toInt ≤ 840 ∧ (0 : Int32) < 8 - nI r := by decide +kernel
theorem zif_ap {α : Type} (c : Prop) [Decidable c] (F : zSg → α) (A : zSg) (a k : Nat) (v : Int32) : (if c then F (zup A a k v) else F A) = F (zup A a k (if c then v else A a k)) := by
  by_cases h : c
  · rw [if_pos h, if_pos h]
  · rw [if_neg h, if_neg h, zup_self]
def qXM (M : zSg) (u p g : Nat) : zSg := zup (zup (zup (zup (zup (zup M (52 + u) 3 (if M (52 + u) 0 = 0 then M 0 1 else M (52 + u) 3)) (52 + u) 0 (M (52 + u) 0 + 1)) 2 g (M 2 g + 1)) 47 u (if M 0 2 = 2 then M 47 u + 840 / (8 - M 3 u) else M 47 u)) 69 p (M 69 p + 1)) 44 u (M 44 u + 1)
theorem mF_runOne_eq {M : zSg} {u p g : Nat} {n : Int32} (hu : u < 16) (hp : p < 3) (hg : M 4 u = nI g) (hg4 : g < 4) : mF_runOne M (nI u) (nI p) n = mF_runTail (qXM M u p g) (nI u) n := by
  have hxu : ix (nI u) = u := zix (by omega)
  have hxp : ix (nI p) = p := zix (by omega)
  have hxg : ix (nI g) = g := zix (by omega)
  have h0 : ix (0 : Int32) = 0 := rfl
  have h3 : ix (3 : Int32) = 3 := rfl
  unfold mF_runOne
  rw [hxu, h0, h3, zif_ap (M (52 + u) 0 = 0) (fun A => mF_runB A (nI u) (nI p) n)]
  unfold mF_runB
  rw [hxu, h0]
  dsimp only
  have o : ∀ (A : zSg) (f j k : Nat) (v : Int32), f ≠ 52 + u → zup A (52 + u) k v f j = A f j := fun A f j k v h => zup_a h
  have e4 : ∀ v w, zup (zup M (52 + u) 3 v) (52 + u) 0 w 4 u = nI g := fun v w => by rw [o _ _ _ _ _ (by omega), o _ _ _ _ _ (by omega)]; exact hg
  rw [e4, hxg]
  have e2 : ∀ v w, zup (zup M (52 + u) 3 v) (52 + u) 0 w 2 g = M 2 g := fun v w => by rw [o _ _ _ _ _ (by omega), o _ _ _ _ _ (by omega)]
  have e0 : ∀ v, zup M (52 + u) 3 v (52 + u) 0 = M (52 + u) 0 := fun v => zup_b (by decide)
  rw [e2, e0]
  have e02 : ∀ v w x, zup (zup (zup M (52 + u) 3 v) (52 + u) 0 w) 2 g x 0 2 = M 0 2 := fun v w x => by rw [zup_a (by decide), o _ _ _ _ _ (by omega), o _ _ _ _ _ (by omega)]
  have e47 : ∀ v w x, zup (zup (zup M (52 + u) 3 v) (52 + u) 0 w) 2 g x 47 u = M 47 u := fun v w x => by rw [zup_a (by decide), o _ _ _ _ _ (by omega), o _ _ _ _ _ (by omega)]
  have e3 : ∀ v w x, zup (zup (zup M (52 + u) 3 v) (52 + u) 0 w) 2 g x 3 u = M 3 u := fun v w x => by rw [zup_a (by decide), o _ _ _ _ _ (by omega), o _ _ _ _ _ (by omega)]
  rw [e02, e47, e3, zif_ap (M 0 2 = 2) (fun A => mF_runC A (nI u) (nI p) n), e47]
  unfold mF_runC
  rw [hxu, hxp]
  dsimp only
  have e69 : ∀ v w x y, zup (zup (zup (zup M (52 + u) 3 v) (52 + u) 0 w) 2 g x) 47 u y 69 p = M 69 p := fun v w x y => by rw [zup_a (by decide), zup_a (by decide), o _ _ _ _ _ (by omega), o _ _ _ _ _ (by omega)]
  have e44 : ∀ v w x y z, zup (zup (zup (zup (zup M (52 + u) 3 v) (52 + u) 0 w) 2 g x) 47 u y) 69 p z 44 u = M 44 u := fun v w x y z => by rw [zup_a (by decide), zup_a (by decide), zup_a (by decide), o _ _ _ _ _ (by omega), o _ _ _ _ _ (by omega)]
  rw [e69, e44]
  rfl
def qXC (C : zSg) (u g : Nat) (τ : Int32) : zSg := zup (zup (zup (zup (zup (zup C (ztk u + 4) 3 (if C (ztk u + 4) 0 = 0 then C 0 9 else C (ztk u + 4) 3)) (ztk u + 4) 0 (C (ztk u + 4) 0 + 1)) 9 g (C 9 g + 1)) (ztk u) 11 τ) (ztk u) 12 (C (ztk u) 12 + 1)) (ztk u) 7 (C (ztk u) 7 + 1)
def qTl (A : zSg) (u : Nat) : zSg := if A (ztk u) 7 < cF_numAt A u (A (ztk u) 6) then A else
    let M2 := zup A (ztk u) 7 0
    let M3 := zup M2 (ztk u) 6 (M2 (ztk u) 6 + 1)
    if M3 (ztk u) 6 < M3 (ztk u + 1) 1 then M3 else
      let M4 := zup M3 (ztk u) 6 0
      zup M4 (ztk u) 8 (M4 (ztk u) 8 + 1)
theorem cF_countRun_eq (A : zSg) (u : Nat) (t : Int32) : cF_countRun A u t = zup (zup A (ztk u + 4) 3 (if A (ztk u + 4) 0 = 0 then t else A (ztk u + 4) 3)) (ztk u + 4) 0 (A (ztk u + 4) 0 + 1) := by
  show zup (if A (ztk u + 4) 0 = 0 then zup A (ztk u + 4) 3 t else A) (ztk u + 4) 0 ((if A (ztk u + 4) 0 = 0 then zup A (ztk u + 4) 3 t else A) (ztk u + 4) 0 + 1) = _
  rw [zif_zup, zup_b (A := A) (j := 0) (k := 3) (by decide)]
theorem cF_addTime_eq {A : zSg} {u : Nat} (h : (0 : Int32) < 8 - A (ztk u) 3) : cF_addTime A u = zup A (ztk u) 11 (A (ztk u) 11 + 840 / (8 - A (ztk u) 3)) := if_pos h
theorem cF_countStep_eq (A : zSg) (u : Nat) : cF_countStep A u = qTl (zup A (ztk u) 7 (A (ztk u) 7 + 1)) u := rfl
theorem qTl_1 {A : zSg} {u : Nat} (h : A (ztk u) 7 < cF_numAt A u (A (ztk u) 6)) : qTl A u = A := if_pos h
theorem qTl_2 {A : zSg} {u : Nat} (h : ¬ A (ztk u) 7 < cF_numAt A u (A (ztk u) 6)) (h2 : A (ztk u) 6 + 1 < A (ztk u + 1) 1) : qTl A u = zup (zup A (ztk u) 7 0) (ztk u) 6 (A (ztk u) 6 + 1) := by
  unfold qTl
  rw [if_neg h]
  show (if zup (zup A (ztk u) 7 0) (ztk u) 6 (zup A (ztk u) 7 0 (ztk u) 6 + 1) (ztk u) 6 < zup (zup A (ztk u) 7 0) (ztk u) 6 (zup A (ztk u) 7 0 (ztk u) 6 + 1) (ztk u + 1) 1 then zup (zup A (ztk u) 7 0) (ztk u) 6 (zup A (ztk u) 7 0 (ztk u) 6 + 1) else _) = _
  rw [zup_at, zup_a (x := ztk u + 1) (by omega), zup_a (x := ztk u + 1) (by omega), zup_b (A := A) (k := 7) (j := 6) (by decide), if_pos h2]
theorem qTl_3 {A : zSg} {u : Nat} (h : ¬ A (ztk u) 7 < cF_numAt A u (A (ztk u) 6)) (h2 : ¬ A (ztk u) 6 + 1 < A (ztk u + 1) 1) : qTl A u = zup (zup (zup (zup A (ztk u) 7 0) (ztk u) 6 (A (ztk u) 6 + 1)) (ztk u) 6 0) (ztk u) 8 (A (ztk u) 8 + 1) := by
  unfold qTl
  rw [if_neg h]
  show (if zup (zup A (ztk u) 7 0) (ztk u) 6 (zup A (ztk u) 7 0 (ztk u) 6 + 1) (ztk u) 6 < zup (zup A (ztk u) 7 0) (ztk u) 6 (zup A (ztk u) 7 0 (ztk u) 6 + 1) (ztk u + 1) 1 then zup (zup A (ztk u) 7 0) (ztk u) 6 (zup A (ztk u) 7 0 (ztk u) 6 + 1) else zup (zup (zup (zup A (ztk u) 7 0) (ztk u) 6 (zup A (ztk u) 7 0 (ztk u) 6 + 1)) (ztk u) 6 0) (ztk u) 8 (zup (zup (zup A (ztk u) 7 0) (ztk u) 6 (zup A (ztk u) 7 0 (ztk u) 6 + 1)) (ztk u) 6 0 (ztk u) 8 + 1)) = _
  rw [zup_at, zup_a (x := ztk u + 1) (by omega), zup_a (x := ztk u + 1) (by omega), zup_b (A := A) (k := 7) (j := 6) (by decide), if_neg h2, zup_b (k := 6) (j := 8) (by decide), zup_b (k := 6) (j := 8) (by decide), zup_b (k := 7) (j := 8) (by decide)]
theorem rTl_1 {A : zSg} {u : Nat} {n : Int32} (hu : u < 16) (h : A 44 u < n) : mF_runTail A (nI u) n = A := by
  unfold mF_runTail
  rw [zix (by omega), if_pos h]
theorem rTl_2 {A : zSg} {u : Nat} {n : Int32} (hu : u < 16) (h : ¬ A 44 u < n) (h2 : A 42 u + 1 < A 6 u) : mF_runTail A (nI u) n = zup (zup A 44 u 0) 42 u (A 42 u + 1) := by
  unfold mF_runTail
  rw [zix (by omega), if_neg h]
  show (if zup (zup A 44 u 0) 42 u (A 42 u + 1) 42 u < A 6 u then zup (zup A 44 u 0) 42 u (A 42 u + 1) else _) = _
  rw [zup_at, if_pos h2]
theorem rTl_3 {A : zSg} {u : Nat} {n : Int32} (hu : u < 16) (h : ¬ A 44 u < n) (h2 : ¬ A 42 u + 1 < A 6 u) : mF_runTail A (nI u) n = if A 43 u + 1 = A 5 u then mF_finish (zup (zup (zup (zup A 44 u 0) 42 u (A 42 u + 1)) 43 u (A 43 u + 1)) 42 u 0) (nI u) else zup (zup (zup (zup A 44 u 0) 42 u (A 42 u + 1)) 43 u (A 43 u + 1)) 42 u 0 := by
  unfold mF_runTail
  rw [zix (by omega), if_neg h]
  show (if zup (zup A 44 u 0) 42 u (A 42 u + 1) 42 u < A 6 u then zup (zup A 44 u 0) 42 u (A 42 u + 1) else if zup (zup (zup (zup A 44 u 0) 42 u (A 42 u + 1)) 43 u (A 43 u + 1)) 42 u 0 43 u = A 5 u then mF_finish (zup (zup (zup (zup A 44 u 0) 42 u (A 42 u + 1)) 43 u (A 43 u + 1)) 42 u 0) (nI u) else zup (zup (zup (zup A 44 u 0) 42 u (A 42 u + 1)) 43 u (A 43 u + 1)) 42 u 0) = _
  rw [zup_at, if_neg h2, zup_a (x := 43) (a := 42) (by decide), zup_at]
theorem cF_runTick_eq {C : zSg} {u g : Nat} (hg : C (ztk u) 4 = nI g) (hg4 : g < 4) (hr : (0 : Int32) < 8 - C (ztk u) 3) : cF_runTick C u = qTl (qXC C u g (if C 1 1 = 2 then C (ztk u) 11 + 840 / (8 - C (ztk u) 3) else C (ztk u) 11)) u := by
  have hxg : ix (nI g) = g := zix (by omega)
  have t9 : ztk u ≠ 9 := ztk_lo (by decide)
  have t1 : ztk u ≠ 1 := ztk_lo (by decide)
  have s9 : ztk u + 4 ≠ 9 := by unfold ztk; omega
  have s1 : ztk u + 4 ≠ 1 := by unfold ztk; omega
  have e1 : (if C (ztk u) 4 < 0 then C else if C (ztk u) 4 < 4 then zup C 9 (ix (C (ztk u) 4)) (C 9 (ix (C (ztk u) 4)) + 1) else C) = zup C 9 g (C 9 g + 1) := by
    rw [hg, if_neg (nI_pos (by omega)), if_pos (zlt_T (x := 4) (by decide) hg4), hxg]
  have a1 : ∀ j, zup C 9 g (C 9 g + 1) (ztk u + 4) j = C (ztk u + 4) j := fun j => zup_a s9
  have a2 : zup C 9 g (C 9 g + 1) 0 9 = C 0 9 := zup_a (by decide)
  have e2 : cF_countRun (zup C 9 g (C 9 g + 1)) u (zup C 9 g (C 9 g + 1) 0 9) = zup (zup (zup C 9 g (C 9 g + 1)) (ztk u + 4) 3 (if C (ztk u + 4) 0 = 0 then C 0 9 else C (ztk u + 4) 3)) (ztk u + 4) 0 (C (ztk u + 4) 0 + 1) := by
    rw [cF_countRun_eq, a1, a1, a2]
  unfold cF_runTick
  rw [e1]
  dsimp only
  rw [e2]
  have c0 : zup (zup (zup C 9 g (C 9 g + 1)) (ztk u + 4) 3 (if C (ztk u + 4) 0 = 0 then C 0 9 else C (ztk u + 4) 3)) (ztk u + 4) 0 (C (ztk u + 4) 0 + 1) = zup (zup (zup C (ztk u + 4) 3 (if C (ztk u + 4) 0 = 0 then C 0 9 else C (ztk u + 4) 3)) (ztk u + 4) 0 (C (ztk u + 4) 0 + 1)) 9 g (C 9 g + 1) := by
    generalize (if C (ztk u + 4) 0 = 0 then C 0 9 else C (ztk u + 4) 3) = v3
    rw [zup_comm C (C 9 g + 1) v3 (by omega), zup_comm (zup C (ztk u + 4) 3 v3) (C 9 g + 1) _ (by omega)]
  have b0 : ∀ j, zup (zup (zup C (ztk u + 4) 3 (if C (ztk u + 4) 0 = 0 then C 0 9 else C (ztk u + 4) 3)) (ztk u + 4) 0 (C (ztk u + 4) 0 + 1)) 9 g (C 9 g + 1) (ztk u) j = C (ztk u) j := fun j => by rw [zup_a t9, zup_a (by omega), zup_a (by omega)]
  have b1 : zup (zup (zup C (ztk u + 4) 3 (if C (ztk u + 4) 0 = 0 then C 0 9 else C (ztk u + 4) 3)) (ztk u + 4) 0 (C (ztk u + 4) 0 + 1)) 9 g (C 9 g + 1) 1 1 = C 1 1 := by rw [zup_a (by decide), zup_a s1.symm, zup_a s1.symm]
  unfold qXC
  rw [c0]
  generalize zup (zup (zup C (ztk u + 4) 3 (if C (ztk u + 4) 0 = 0 then C 0 9 else C (ztk u + 4) 3)) (ztk u + 4) 0 (C (ztk u + 4) 0 + 1)) 9 g (C 9 g + 1) = Z at b0 b1 ⊢
  rw [b0 12]
  have y3 : zup Z (ztk u) 12 (C (ztk u) 12 + 1) (ztk u) 3 = C (ztk u) 3 := by rw [zup_b (by decide), b0]
  have y11 : zup Z (ztk u) 12 (C (ztk u) 12 + 1) (ztk u) 11 = C (ztk u) 11 := by rw [zup_b (by decide), b0]
  have y1 : zup Z (ztk u) 12 (C (ztk u) 12 + 1) 1 1 = C 1 1 := by rw [zup_b (by decide), b1]
  rw [cF_addTime_eq (by rw [y3]; exact hr), zif_zup, y1, y11, y3]
  generalize (if C 1 1 = 2 then C (ztk u) 11 + 840 / (8 - C (ztk u) 3) else C (ztk u) 11) = τ
  rw [cF_countStep_eq, zup_b (k := 11) (j := 7) (by decide), zup_b (k := 12) (j := 7) (by decide), b0, zup_comm Z (C (ztk u) 12 + 1) τ (by omega)]
theorem zI_X {n K u p g : Nat} {C M : zSg} (h : zI n K C M) (hK : K ≤ 200000) (hu : u < n) (hp : p < 3) (hup : M 68 p = nI u) (hg4 : g < 4) : zI n (K + 1) (qXC C u g (if C 1 1 = 2 then C (ztk u) 11 + 840 / (8 - C (ztk u) 3) else C (ztk u) 11)) (qXM M u p g) := by
  have hn := zI_n h
  have hE := zI_E h
  obtain ⟨r, hr, er⟩ : ∃ r, r < 8 ∧ M 3 u = nI r := vp_in_of (zin_r (a := 0) (b := 7) (n := 8) (zI_W h 3 u) (by decide) (by decide)) (by decide)
  obtain ⟨s1, s2, s3⟩ := zshare r hr
  have h2 := zI_on2 h hu hp hup
  have hM := zI_M h hu
  have hτ : 0 ≤ (if M 0 2 = 2 then M 47 u + 840 / (8 - M 3 u) else M 47 u).toInt ∧ (if M 0 2 = 2 then M 47 u + 840 / (8 - M 3 u) else M 47 u).toInt ≤ 840 * ((K + 1 : Nat) : Int) := by
    rw [er]
    split
    · rw [fb_addI (by omega) (by omega)]
      omega
    · omega
  have g1 := zI_pl h (f := 52 + u) (j := 3) (w := if M (52 + u) 0 = 0 then M 0 1 else M (52 + u) 3) (by unfold zdm; omega) (zph_52 3 (by omega)) (by omega) (zcfg_cnt u 3 (by omega)) (zcnt_rg (by omega) _ _) rfl ⟨fun e => by omega, fun e => by exfalso; omega, fun t ht9 e => by rw [show t = u by omega, h2]; decide⟩
  have g2 := zI_pl g1 (f := 52 + u) (j := 0) (w := M (52 + u) 0 + 1) (by unfold zdm; omega) (zph_52 0 (by omega)) (by omega) (zcfg_cnt u 0 (by omega)) (zcnt_rg (by omega) _ _) rfl ⟨fun e => by omega, fun e => by exfalso; omega, fun t ht9 e => by rw [show t = u by omega, zup_a (by omega), h2]; decide⟩
  have g3 := zI_pl g2 (f := 2) (j := g) (w := M 2 g + 1) (by unfold zdm; omega) rfl (by omega) rfl (zr_any _) rfl ⟨fun e => by omega, fun e => by exfalso; omega, fun t ht9 e => by omega⟩
  have g4 := zI_time g3 hu hτ
  have g5 := zI_had (v := M 69 p + 1) g4 hu hp (by
    rw [zup_a (by decide), zup_a (by decide), zup_a (by omega), zup_a (by omega)]
    exact hup)
  have g6 := zI_pl g5 (f := 44) (j := u) (w := M 44 u + 1) (by unfold zdm; omega) rfl (by omega) rfl (zr_any _) rfl ⟨fun e => by omega, fun e => by exfalso; omega, fun t ht9 e => by omega⟩
  unfold qXC qXM
  rw [ze_cnt hn hE hu (by decide), ze_cnt hn hE hu (by decide), ze_clk hE, ze_used hE hg4, ze_way hE, ze_time hE (by omega), ze_rank hE (by omega), zI_D h p u hp hu hup, ze_part hE (by omega)]
  exact g6
theorem zI_runT {n K u p : Nat} {C M : zSg} (h : zI n K C M) (hK : K ≤ 200000) (hu : u < n) (hp : p < 3) (hup : M 68 p = nI u) : zI n (K + 1) (if cF_isThrough (cF_runTick C u) u = true then cF_finish (cF_runTick C u) u else cF_runTick C u) (mF_runOne M (nI u) (nI p) (M (25 + u) (ix (M 42 u)))) := by
  have hn := zI_n h
  have h2 := zI_on2 h hu hp hup
  have hT := zI_T h hu
  have hb := hT.2.2.2.2.1 (by rw [h2]; decide) (by rw [h2]; decide)
  have h6 : C (ztk u) 6 = M 42 u := hT.1 (by rw [h2]; decide)
  have h16 : (M 6 u).toInt ≤ 16 := (zI_W h 6 u).2
  have hgr := hT.2.2.2.2.2.1 (by rw [h2]; decide) (by rw [h2]; decide)
  obtain ⟨g, hg, eg⟩ : ∃ g, g < 4 ∧ M 4 u = nI g := vp_in_of (zin_r (a := 0) (b := 3) (n := 4) (zI_W h 4 u) (by decide) (by decide)) (by decide)
  obtain ⟨r, hr, er⟩ : ∃ r, r < 8 ∧ M 3 u = nI r := vp_in_of (zin_r (a := 0) (b := 7) (n := 8) (zI_W h 3 u) (by decide) (by decide)) (by decide)
  rw [mF_runOne_eq (by omega) hp eg hg, cF_runTick_eq ((ze_grp (zI_E h) (by omega)).trans eg) hg (by rw [ze_rank (zI_E h) (by omega), er]; exact (zshare r hr).2.2)]
  have hX := zI_X h hK hu hp hup hg
  -- what the new cells hold
  have x42 : qXM M u p g 42 u = M 42 u := by
    unfold qXM
    rw [zup_a (by decide), zup_a (by decide), zup_a (by decide), zup_a (by decide), zup_a (by omega), zup_a (by omega)]
  have x6 : qXM M u p g 6 u = M 6 u := by
    unfold qXM
    rw [zup_a (by decide), zup_a (by decide), zup_a (by decide), zup_a (by decide), zup_a (by omega), zup_a (by omega)]
  have x5 : qXM M u p g 5 u = M 5 u := by
    unfold qXM
    rw [zup_a (by decide), zup_a (by decide), zup_a (by decide), zup_a (by decide), zup_a (by omega), zup_a (by omega)]
  have x43 : qXM M u p g 43 u = M 43 u := by
    unfold qXM
    rw [zup_a (by decide), zup_a (by decide), zup_a (by decide), zup_a (by decide), zup_a (by omega), zup_a (by omega)]
  have x68 : qXM M u p g 68 p = nI u := by
    unfold qXM
    rw [zup_a (by decide), zup_a (by decide), zup_a (by decide), zup_a (by decide), zup_a (by omega), zup_a (by omega)]
    exact hup
  have x25 : ∀ j, qXM M u p g (25 + u) j = M (25 + u) j := by
    intro j
    unfold qXM
    rw [zup_a (by omega), zup_a (by omega), zup_a (by omega), zup_a (by omega), zup_a (by omega), zup_a (by omega)]
  generalize qXM M u p g = MX at hX x42 x6 x5 x43 x68 x25 ⊢
  generalize qXC C u g (if C 1 1 = 2 then C (ztk u) 11 + 840 / (8 - C (ztk u) 3) else C (ztk u) 11) = CX at hX ⊢
  have y2 := zI_on2 hX hu hp x68
  have yT := zI_T hX hu
  have y6 : CX (ztk u) 6 = M 42 u := (yT.1 (by rw [y2]; decide)).trans x42
  have hx := ztoInt hb.1.1
  have nAt : cF_numAt CX u (CX (ztk u) 6) = M (25 + u) (ix (M 42 u)) := by
    unfold cF_numAt
    rw [y6, if_neg (by rw [Int32.lt_iff_toInt_lt, show (0 : Int32).toInt = 0 from rfl]; omega), if_pos (by rw [Int32.lt_iff_toInt_lt, show (16 : Int32).toInt = 16 from rfl]; omega), ze_num hn (zI_E hX) hu (by omega), x25]
  have thr : ∀ (C2 M2 : zSg), zI n (K + 1) C2 M2 → M2 41 u = 2 → cF_isThrough C2 u = false := by
    intro C2 M2 h9 h8
    have := (zI_T h9 hu).2.2.2.2.2.1 (by rw [h8]; decide) (by rw [h8]; decide)
    unfold cF_isThrough
    rw [ze_gone (zI_E h9) (by omega), ze_rnd (zI_E h9) hu, if_pos (by rw [Int32.lt_iff_toInt_lt]; exact this)]
  have dM : ∀ v, (MX 44 u < v) = (CX (ztk u) 7 < v) := fun v => by rw [ze_part (zI_E hX) (by omega)]
  by_cases d1 : MX 44 u < M (25 + u) (ix (M 42 u))
  · rw [qTl_1 (by rw [nAt, ze_part (zI_E hX) (by omega)]; exact d1), rTl_1 (by omega) d1, thr CX MX hX y2, if_neg (by decide)]
    exact hX
  · have d1c : ¬ CX (ztk u) 7 < cF_numAt CX u (CX (ztk u) 6) := by rw [nAt, ze_part (zI_E hX) (by omega)]; exact d1
    have cl : CX (ztk u + 1) 1 = M 6 u := (ze_len (zI_E hX) (by omega)).trans x6
    have hX2 := zI_pl hX (f := 44) (j := u) (v := 0) (w := 0) (by unfold zdm; omega) rfl (by omega) rfl (zr_any _) rfl ⟨fun e => by omega, fun e => by exfalso; omega, fun t ht9 e => by omega⟩
    have z2 : zup MX 44 u 0 41 u = 2 := y2
    have z6 : zup MX 44 u 0 6 u = M 6 u := x6
    have z5 : zup MX 44 u 0 5 u = M 5 u := x5
    have hs : (M 42 u + 1).toInt = (M 42 u).toInt + 1 := fb_addI (y := 1) (by rw [show (1 : Int32).toInt = 1 from rfl]; omega) (by rw [show (1 : Int32).toInt = 1 from rfl]; omega)
    by_cases d2 : M 42 u + 1 < M 6 u
    · rw [qTl_2 d1c (by rw [y6, cl]; exact d2), rTl_2 (by omega) d1 (by rw [x42, x6]; exact d2), y6, x42]
      rw [Int32.lt_iff_toInt_lt] at d2
      have hX3 := zI_step hX2 hu z2 (s := M 42 u + 1) (by rw [z6]; omega)
      rw [thr _ _ hX3 y2, if_neg (by decide)]
      exact hX3
    · have g8 : CX (ztk u) 8 = M 43 u := (ze_gone (zI_E hX) (by omega)).trans x43
      rw [qTl_3 d1c (by rw [y6, cl]; exact d2), rTl_3 (by omega) d1 (by rw [x42, x6]; exact d2), y6, x42, g8, x43, x5]
      generalize zup MX 44 u 0 = MY at hX2 z2 z6 z5 ⊢
      generalize zup CX (ztk u) 7 0 = CY at hX2 ⊢
      have hg5 : (M 5 u).toInt < 2147483648 := (zrng _).2
      have hge : (M 43 u + 1).toInt = (M 43 u).toInt + 1 := fb_addI (y := 1) (by have := (zrng (M 43 u)).1; rw [show (1 : Int32).toInt = 1 from rfl]; omega) (by rw [show (1 : Int32).toInt = 1 from rfl]; omega)
      have t1 : cF_isThrough (zup (zup (zup CY (ztk u) 6 (M 42 u + 1)) (ztk u) 6 0) (ztk u) 8 (M 43 u + 1)) u = if M 43 u + 1 < M 5 u then false else true := by
        unfold cF_isThrough
        rw [zup_at, zup_a (by omega), zup_a (by omega), zup_a (by omega), ze_rnd (zI_E hX2) hu, z5]
      rw [t1]
      by_cases d3 : M 43 u + 1 = M 5 u
      · rw [if_pos d3, if_neg (c := M 43 u + 1 < M 5 u) (by rw [d3, Int32.lt_iff_toInt_lt]; omega), if_pos rfl]
        refine zI_finish hX2 hu ?_ ?_ (fun f j hfj => ?_) (fun a b hab => ?_)
        · exact zE_m (zE_u hn (zE_m (zE_c hn (zE_c hn (zI_E hX2) (znd_t (by decide))) (znd_t (by decide))) (f := 42) (by unfold zdm; omega)) (f := 43) (j := u) (by unfold zdm; omega) rfl rfl) (f := 42) (by unfold zdm; omega)
        · exact zk_up (zk_up (zk_up (zk_r (zI_W hX2)) (f := 42) (by rfl) (zr_any _)) (f := 43) (by rfl) (zr_any _)) (f := 42) (by rfl) (zr_any _)
        · rw [zup_o (fun e => hfj ⟨Or.inl e.1, e.2⟩), zup_o (fun e => hfj ⟨Or.inr e.1, e.2⟩), zup_o (fun e => hfj ⟨Or.inl e.1, e.2⟩)]
        · rw [zup_o (fun e => hab ⟨e.1, Or.inr e.2⟩), zup_o (fun e => hab ⟨e.1, Or.inl e.2⟩), zup_o (fun e => hab ⟨e.1, Or.inl e.2⟩)]
      · have d4 : (M 43 u + 1).toInt ≠ (M 5 u).toInt := fun e => d3 (Int32.toInt_inj.mp e)
        have d5 : M 43 u + 1 < M 5 u := by rw [Int32.lt_iff_toInt_lt]; omega
        rw [if_neg d3, if_pos d5, if_neg (by decide)]
        exact zI_nr hX2 hu z2 (by rw [z6, show (0 : Int32).toInt = 0 from rfl]; omega) (by rw [z5, hge]; omega)
