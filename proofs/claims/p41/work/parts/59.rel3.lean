/-! The relation, kept where one task changes -/
theorem zup_b {A : zSg} {a k x j : Nat} {v : Int32} (h : j ≠ k) : zup A a k v x j = A x j := zup_o (fun e => h e.2)
theorem zup_a {A : zSg} {a k x j : Nat} {v : Int32} (h : x ≠ a) : zup A a k v x j = A x j := zup_o (fun e => h e.1)
theorem ztk_lo {t a : Nat} (h : a < 15) : ztk t ≠ a := by unfold ztk; omega
theorem ztk_ne {t u : Nat} (h : t ≠ u) : ztk t ≠ ztk u := fun e => h (ztk_inj e)
theorem zif_zup (c : Prop) [Decidable c] (A : zSg) (a k : Nat) (v : Int32) : (if c then zup A a k v else A) = zup A a k (if c then v else A a k) := by
  by_cases h : c
  · rw [if_pos h, if_pos h]
  · rw [if_neg h, if_neg h, zup_self]
theorem zAr_s {n K K' : Nat} {C M C' M' : zSg} (hK : K ≤ K') (h : zAr n K C M) {u : Nat} (c12 : (C 0 12).toInt ≤ (C' 0 12).toInt ∧ (C' 0 12).toInt ≤ K') (m10 : M' 0 10 = M 0 10)
    (v : ∀ t, t < n → t ≠ u → M' 41 t = M 41 t ∧ M' 50 t = M 50 t ∧ C' (ztk t) 14 = C (ztk t) 14) (hu : ¬ (M' 41 u = 4 ∨ M' 41 u = 5)) : zAr n K' C' M' := by
  obtain ⟨h1, h2, h3, h4⟩ := h
  refine ⟨by omega, by rw [m10]; omega, fun t ht hs => ?_, fun t w ht hw hs hs2 => ?_⟩
  · have htu : t ≠ u := fun e => hu (e ▸ hs)
    obtain ⟨e1, e2, e3⟩ := v t ht htu
    rw [e1] at hs
    have := h3 t ht hs
    rw [e2, e3, m10]
    omega
  · have htu : t ≠ u := fun e => hu (e ▸ hs)
    have hwu : w ≠ u := fun e => hu (e ▸ hs2)
    obtain ⟨e1, e2, e3⟩ := v t ht htu
    obtain ⟨e4, e5, e6⟩ := v w hw hwu
    rw [e1] at hs
    rw [e4] at hs2
    rw [e2, e3, e5, e6]
    exact h4 t w ht hw hs hs2
theorem zAr_w {n K : Nat} {C M C' M' : zSg} (hK : K ≤ 200000) (h : zAr n K C M) {u : Nat} (c12 : C' 0 12 = C 0 12 + 1) (m10 : M' 0 10 = M 0 10 + 1)
    (v : ∀ t, t < n → t ≠ u → M' 41 t = M 41 t ∧ M' 50 t = M 50 t ∧ C' (ztk t) 14 = C (ztk t) 14) (hc : C' (ztk u) 14 = C 0 12) (hm : M' 50 u = M 0 10) : zAr n (K + 1) C' M' := by
  obtain ⟨h1, h2, h3, h4⟩ := h
  have g1 : (C 0 12 + 1).toInt = (C 0 12).toInt + 1 := fb_addI (y := 1) (by rw [show (1 : Int32).toInt = 1 from rfl]; omega) (by rw [show (1 : Int32).toInt = 1 from rfl]; omega)
  have g2 : (M 0 10 + 1).toInt = (M 0 10).toInt + 1 := fb_addI (y := 1) (by rw [show (1 : Int32).toInt = 1 from rfl]; omega) (by rw [show (1 : Int32).toInt = 1 from rfl]; omega)
  have key : ∀ t, t < n → M' 41 t = 4 ∨ M' 41 t = 5 → t ≠ u → (C' (ztk t) 14).toInt < (C 0 12).toInt ∧ (M' 50 t).toInt < (M 0 10).toInt := by
    intro t ht hs htu
    obtain ⟨e1, e2, e3⟩ := v t ht htu
    rw [e1] at hs
    rw [e2, e3]
    exact h3 t ht hs
  refine ⟨by rw [c12, g1]; omega, by rw [m10, g2]; omega, fun t ht hs => ?_, fun t w ht hw hs hs2 => ?_⟩
  · rw [c12, m10, g1, g2]
    by_cases htu : t = u
    · subst htu
      rw [hc, hm]
      omega
    · have := key t ht hs htu
      omega
  · by_cases htu : t = u
    · subst htu
      by_cases hwu : w = t
      · subst hwu
        omega
      · have := key w hw hs2 hwu
        rw [hc, hm]
        omega
    · by_cases hwu : w = u
      · subst hwu
        have := key t ht hs htu
        rw [hc, hm]
        omega
      · obtain ⟨e1, e2, e3⟩ := v t ht htu
        obtain ⟨e4, e5, e6⟩ := v w hw hwu
        rw [e1] at hs
        rw [e4] at hs2
        rw [e2, e3, e5, e6]
        exact h4 t w ht hw hs hs2
theorem zBk_s {n : Nat} {M M' : zSg} (hW : zmW M) (h : zBk n M) (v : ∀ t, t < n → M' 41 t = 4 → M 41 t = 4 ∧ M' 49 t = M 49 t) (hh : ∀ q, q < 6 → ¬ M 101 q = -1 → ¬ M' 101 q = -1) : zBk n M' := by
  intro t ht hs
  obtain ⟨h1, h2⟩ := v t ht hs
  rw [h2]
  exact hh _ (zin_lt (zmW_at hW t)) (h t ht h1)
theorem zHd_s {n : Nat} {C M C' M' : zSg} (h : zHd n C M) (v : ∀ p t, p < 3 → t < n → M' 68 p = nI t → M 68 p = nI t ∧ M' 69 p = M 69 p ∧ C' (ztk t) 12 = C (ztk t) 12) : zHd n C' M' := by
  intro p t hp ht e
  obtain ⟨e1, e2, e3⟩ := v p t hp ht e
  rw [e2, e3]
  exact h p t hp ht e1
theorem sc_8 {M M' : zSg} (sc : zsc M M') {t : Nat} (ht : t < 16) : ∀ j, M' (8 + t) j = M (8 + t) j := by
  have r1 : ∀ j, M' (8 + t) j = M (8 + t) j := fun j => sc (8 + t) j (by
    have : ∀ t, t < 16 → zcfg (8 + t) j = true := by
      intro t ht
      match t, ht with
      | 0, _ => rfl
      | 1, _ => rfl
      | 2, _ => rfl
      | 3, _ => rfl
      | 4, _ => rfl
      | 5, _ => rfl
      | 6, _ => rfl
      | 7, _ => rfl
      | 8, _ => rfl
      | 9, _ => rfl
      | 10, _ => rfl
      | 11, _ => rfl
      | 12, _ => rfl
      | 13, _ => rfl
      | 14, _ => rfl
      | 15, _ => rfl
      | t + 16, h => exact absurd h (by omega)
    exact this t ht)
  exact r1
theorem sc_25 {M M' : zSg} (sc : zsc M M') {t : Nat} (ht : t < 16) : ∀ j, M' (25 + t) j = M (25 + t) j := by
  have r2 : ∀ j, M' (25 + t) j = M (25 + t) j := fun j => sc (25 + t) j (by
    have : ∀ t, t < 16 → zcfg (25 + t) j = true := by
      intro t ht
      match t, ht with
      | 0, _ => rfl
      | 1, _ => rfl
      | 2, _ => rfl
      | 3, _ => rfl
      | 4, _ => rfl
      | 5, _ => rfl
      | 6, _ => rfl
      | 7, _ => rfl
      | 8, _ => rfl
      | 9, _ => rfl
      | 10, _ => rfl
      | 11, _ => rfl
      | 12, _ => rfl
      | 13, _ => rfl
      | 14, _ => rfl
      | 15, _ => rfl
      | t + 16, h => exact absurd h (by omega)
    exact this t ht)
  exact r2
theorem zTk_s {C M C' M' : zSg} {t : Nat} (ht : t < 16) (sc : zsc M M') (h : zTk C M t) (m1 : M' 41 t = M 41 t) (m2 : M' 42 t = M 42 t) (m3 : M' 43 t = M 43 t) (m4 : M' 48 t = M 48 t) (m5 : M' 49 t = M 49 t) (c1 : C' (ztk t) 6 = C (ztk t) 6) (c2 : C' (ztk t) 13 = C (ztk t) 13)
    (nw : M 41 t = 0 → (M 46 t = 0 → M' 46 t = 0) ∧ C' (ztk t) 9 = C (ztk t) 9 ∧ (∀ j, C' (ztk t + 4) j = C (ztk t + 4) j) ∧ ∀ j, M' (52 + t) j = M (52 + t) j) : zTk C' M' t := by
  have r1 := sc_8 sc ht
  have r2 := sc_25 sc ht
  have r3 : M' 6 t = M 6 t := sc 6 t rfl
  have r4 : M' 5 t = M 5 t := sc 5 t rfl
  obtain ⟨h1, h2, h3, h4, h5, h6, h7, h8⟩ := h
  refine ⟨?_, ?_, ?_, ?_, ?_, ?_, ?_, ?_⟩
  · rw [m1, m2, c1]; exact h1
  · rw [m1, m2, r3]; exact h2
  · rw [m1, m4, c2]; exact h3
  · rw [m1, m5, m2, c2, r1]; exact h4
  · rw [m1, m2, r3, r1]; exact h5
  · rw [m1, m3, r4]; exact h6
  · intro s hs
    rw [r1, r2]
    rw [r3] at hs
    exact h7 s hs
  · rw [m1, m2, m3]
    intro h0
    obtain ⟨a1, a2, a3, a4, a5, a6, a7⟩ := h8 h0
    obtain ⟨b1, b2, b3, b4⟩ := nw h0
    exact ⟨a1, a2, b1 a3, by rw [b2]; exact a4, fun j hj => by rw [b3, b4]; exact a5 j hj, by rw [b3]; exact a6, by rw [b3]; exact a7⟩
theorem zHi_s {n : Nat} {M M' : zSg} (h : zHi n M) (hn : n ≤ 16) (sc : zsc M M') (m : ∀ t, n ≤ t → t < 16 → M' 41 t = M 41 t) : zHi n M' := by
  refine ⟨fun t h1 h2 => ?_, fun t ht => ?_⟩
  · obtain ⟨a, b, c⟩ := h.1 t h1 h2
    exact ⟨(m t h1 h2).trans a, (sc 6 t rfl).trans b, fun j hj => ⟨(sc_8 sc h2 j).trans (c j hj).1, (sc_25 sc h2 j).trans (c j hj).2⟩⟩
  · rw [sc 5 t rfl]
    exact h.2 t ht
theorem zI_mk {n K K' : Nat} {C M C' M' : zSg} {u : Nat} (h : zI n K C M) (hK : K ≤ K') (hu : u < n) (e : zE n C' M') (k : zk M M') (nu : ∀ t, t < 16 → C' (ztk t) 0 = C (ztk t) 0)
    (vM : ∀ t, t ≠ u → t < 16 → M' 41 t = M 41 t ∧ M' 42 t = M 42 t ∧ M' 43 t = M 43 t ∧ M' 47 t = M 47 t ∧ M' 48 t = M 48 t ∧ M' 49 t = M 49 t)
    (vC : ∀ t, t ≠ u → t < 16 → C' (ztk t) 6 = C (ztk t) 6 ∧ C' (ztk t) 13 = C (ztk t) 13)
    (vN : ∀ t, t ≠ u → t < 16 → M' 46 t = M 46 t ∧ C' (ztk t) 9 = C (ztk t) 9 ∧ (∀ j, C' (ztk t + 4) j = C (ztk t + 4) j) ∧ ∀ j, M' (52 + t) j = M (52 + t) j)
    (T : zTk C' M' u) (A : zAr n K' C' M') (O : zOn n M') (D : zHd n C' M') (B : zBk n M') (Tm : 0 ≤ (M' 47 u).toInt ∧ (M' 47 u).toInt ≤ 840 * K') (ck : M' 0 1 = M 0 1) : zI n K' C' M' := by
  have hn := zI_n h
  have hall := h
  obtain ⟨-, -, -, -, hHi, hTk, -, -, -, -, hTm, -⟩ := hall
  refine ⟨⟨hn, ?_⟩, e, k.1, fun t ht => ?_, zHi_s hHi hn k.2 (fun t h1 h2 => (vM t (by omega) h2).1), fun t ht => ?_, A, O, D, B, fun t ht => ?_, ?_⟩
  · rw [k.2 0 15 rfl]; exact h.1.2
  · rw [nu t ht]; exact zI_U h ht
  · by_cases htu : t = u
    · rw [htu]; exact T
    · obtain ⟨a1, a2, a3, a4, a5, a6⟩ := vM t htu (by omega)
      obtain ⟨b1, b2⟩ := vC t htu (by omega)
      obtain ⟨d1, d2, d3, d4⟩ := vN t htu ht
      exact zTk_s (by omega) k.2 (hTk t ht) a1 a2 a3 a5 a6 b1 b2 (fun _ => ⟨fun e => d1.trans e, d2, d3, d4⟩)
  · by_cases htu : t = u
    · rw [htu]; exact Tm
    · rw [(vM t htu (by omega)).2.2.2.1]
      have := hTm t ht
      omega
  · rw [ck]
    have := zI_K h
    omega
/-- what a place of another task holds -/
theorem zN_q {A : zSg} {a k x j : Nat} {v : Int32} (h : x ≠ a) : zup A a k v x j = A x j := zup_a h
/-! Waking -/
def qlv (x : Int32) : Int32 := if 0 < x - 1 then x - 1 else 0
theorem qlv_eq {x : Int32} (h : zr1 x 0 3) : (if 0 < x then x - 1 else x) = qlv x := by
  unfold qlv
  have h1 := h.1
  have h2 := h.2
  have e := zsub1 (x := x) (by omega)
  by_cases c : 0 < x
  · rw [if_pos c]
    by_cases c2 : 0 < x - 1
    · rw [if_pos c2]
    · rw [if_neg c2]
      rw [Int32.lt_iff_toInt_lt, e, show (0 : Int32).toInt = 0 from rfl] at c2
      rw [Int32.lt_iff_toInt_lt, show (0 : Int32).toInt = 0 from rfl] at c
      exact Int32.toInt_inj.mp (by rw [e, show (0 : Int32).toInt = 0 from rfl]; omega)
  · rw [if_neg c]
    rw [Int32.lt_iff_toInt_lt, show (0 : Int32).toInt = 0 from rfl] at c
    rw [if_neg (by rw [Int32.lt_iff_toInt_lt, e, show (0 : Int32).toInt = 0 from rfl]; omega)]
    exact Int32.toInt_inj.mp (by rw [show (0 : Int32).toInt = 0 from rfl]; omega)
def qML (M : zSg) (u : Nat) : Int32 := if M 0 2 = 1 then qlv (M 46 u) else M 46 u
def qMT (M : zSg) (u : Nat) : Int32 := if M 0 2 = 2 then (if M 47 u < mF_least (zup M 46 u (qML M u)) (nI u) then mF_least (zup M 46 u (qML M u)) (nI u) else M 47 u) else M 47 u
theorem mF_wake_ch (M : zSg) {u : Nat} (hu : u < 16) : mF_wake M (nI u) = zup (zup (zup (zup (zup M 46 u (qML M u)) 47 u (qMT M u)) 41 u 1) 45 u (M 0 9)) 0 9 (M 0 9 + 1) := by
  have hx : ix (nI u) = u := zix (by omega)
  unfold mF_wake
  rw [hx]
  have e1 : (if M 0 2 = 1 then zup M 46 u (if 0 < M 46 u - 1 then M 46 u - 1 else 0) else M) = zup M 46 u (qML M u) := by
    rw [zif_zup]
    rfl
  dsimp only
  rw [e1]
  have e2 : (if zup M 46 u (qML M u) 0 2 = 2 then zup (zup M 46 u (qML M u)) 47 u (if zup M 46 u (qML M u) 47 u < mF_least (zup M 46 u (qML M u)) (nI u) then mF_least (zup M 46 u (qML M u)) (nI u) else zup M 46 u (qML M u) 47 u) else zup M 46 u (qML M u)) = zup (zup M 46 u (qML M u)) 47 u (qMT M u) := by
    rw [zif_zup]
    rfl
  rw [e2]
  unfold mF_ready
  rw [hx]
  rfl
def qCL (C : zSg) (u : Nat) : Int32 := if C 1 1 = 1 then (if 0 < C (ztk u) 10 then C (ztk u) 10 - 1 else C (ztk u) 10) else C (ztk u) 10
def qCT (C : zSg) (u : Nat) : Int32 := if C 1 1 = 2 then (if C (ztk u) 11 < cF_least (zup C (ztk u) 10 (qCL C u)) u then cF_least (zup C (ztk u) 10 (qCL C u)) u else C (ztk u) 11) else C (ztk u) 11
theorem cF_wake_ch (C : zSg) (u : Nat) : cF_wake C u = zup (zup (zup (zup (zup C (ztk u) 10 (qCL C u)) (ztk u) 11 (qCT C u)) (ztk u) 5 1) (ztk u) 9 (C 0 11)) 0 11 (C 0 11 + 1) := by
  unfold cF_wake
  have e1 : (if C 1 1 = 1 then (if 0 < C (ztk u) 10 then zup C (ztk u) 10 (C (ztk u) 10 - 1) else C) else C) = zup C (ztk u) 10 (qCL C u) := by
    rw [zif_zup (0 < C (ztk u) 10), zif_zup]
    rfl
  dsimp only
  rw [e1]
  have f1 : zup C (ztk u) 10 (qCL C u) 1 1 = C 1 1 := zup_b (by decide)
  have f2 : zup C (ztk u) 10 (qCL C u) (ztk u) 11 = C (ztk u) 11 := zup_b (by decide)
  rw [f1, f2]
  have e2 : (if C 1 1 = 2 then (if C (ztk u) 11 < cF_least (zup C (ztk u) 10 (qCL C u)) u then zup (zup C (ztk u) 10 (qCL C u)) (ztk u) 11 (cF_least (zup C (ztk u) 10 (qCL C u)) u) else zup C (ztk u) 10 (qCL C u)) else zup C (ztk u) 10 (qCL C u)) = zup (zup C (ztk u) 10 (qCL C u)) (ztk u) 11 (qCT C u) := by
    rw [zif_zup (C (ztk u) 11 < cF_least (zup C (ztk u) 10 (qCL C u)) u), zif_zup, f2]
    rfl
  rw [e2]
  unfold cF_ready
  dsimp only
  have g : ∀ v w x, zup (zup (zup C (ztk u) 10 v) (ztk u) 11 w) (ztk u) 5 x 0 11 = C 0 11 := fun v w x => by
    rw [zup_b (by decide), zup_a (ztk_lo (by decide)).symm, zup_b (by decide)]
  rw [g, zup_b (k := 9) (j := 11) (by decide), g]
theorem least_eq {n : Nat} {C M : zSg} (hn : n ≤ 16) (hx : ix (M 0 15) = n) (hE : zE n C M) (hH : ∀ t, n ≤ t → t < 16 → M 41 t = 0) {u : Nat} (hu : u < 16) : cF_least C u = mF_least M (nI u) := by
  unfold cF_least mF_least
  rw [hx]
  refine q_fold2 (R := fun _ (s x : Int32) => s = x) (fun k s => cB_least C u k s) (fun k s => mB_least M (nI u) k s) 16 n hn rfl (fun k s t hk e => ?_) (fun k s t h1 h2 e => ?_)
  · subst e
    unfold cB_least mB_least
    rw [ze_st hE (by omega), ze_time hE (by omega)]
    by_cases c : k = u
    · rw [if_pos c, if_pos (by rw [c])]
    · rw [if_neg c, if_neg (fun e => c (nI_inj (by omega) hu e))]
  · subst e
    unfold cB_least
    rw [ze_st hE h2, hH k h1 h2]
    by_cases c : k = u
    · rw [if_pos c]
    · rw [if_neg c, if_neg (by decide), if_neg (by decide)]
theorem least_rg {n : Nat} {M : zSg} (hx : ix (M 0 15) = n) (b : Int32) : mF_least M b = -1 ∨ ∃ t, t < n ∧ mF_least M b = M 47 t := by
  unfold mF_least
  rw [hx]
  refine q_fold (P := fun _ s => s = -1 ∨ ∃ t, t < n ∧ s = M 47 t) (fun k s => mB_least M b k s) n (Or.inl rfl) (fun k s hk h => ?_)
  show mB_least M b k s = -1 ∨ ∃ t, t < n ∧ mB_least M b k s = M 47 t
  unfold mB_least
  repeat' split
  all_goals first | exact h | exact Or.inr ⟨k, hk, rfl⟩
theorem qCL_eq {n K : Nat} {C M : zSg} (h : zI n K C M) {u : Nat} (hu : u < n) : qCL C u = qML M u := by
  have hn := zI_n h
  unfold qCL qML
  rw [ze_way (zI_E h), ze_lev (zI_E h) (by omega), qlv_eq (zI_W h 46 u)]
theorem qML_r {M : zSg} (hW : zmW M) (u : Nat) : zr1 (qML M u) 0 3 := by
  unfold qML
  split
  · exact zlv hW u
  · exact hW 46 u
theorem qCT_eq {n K : Nat} {C M : zSg} (h : zI n K C M) {u : Nat} (hu : u < n) : qCT C u = qMT M u := by
  have hn := zI_n h
  have e1 : zE n (zup C (ztk u) 10 (qML M u)) (zup M 46 u (qML M u)) := zE_u hn (zI_E h) (f := 46) (by unfold zdm; omega) rfl rfl
  have e2 := least_eq (M := zup M 46 u (qML M u)) hn (show ix (M 0 15) = n from zI_ix h) e1 (fun t h1 h2 => show M 41 t = 0 from zI_H h h1 h2) (u := u) (by omega)
  unfold qCT qMT
  rw [ze_way (zI_E h), ze_time (zI_E h) (by omega), qCL_eq h hu, e2]
theorem qMT_r {n K : Nat} {C M : zSg} (h : zI n K C M) {u : Nat} (hu : u < n) : 0 ≤ (qMT M u).toInt ∧ (qMT M u).toInt ≤ 840 * K := by
  have h0 := zI_M h hu
  unfold qMT
  split
  · split
    · rename_i c
      rcases least_rg (M := zup M 46 u (qML M u)) (show ix (M 0 15) = n from zI_ix h) (nI u) with e | ⟨t, ht, e⟩
      · rw [e, Int32.lt_iff_toInt_lt, show (-1 : Int32).toInt = -1 from rfl] at c
        omega
      · rw [e]
        exact zI_M h ht
    · exact h0
  · exact h0
/-- a task that has no processor becomes ready, at a step of its program -/
theorem zI_rdy {n K : Nat} {C M : zSg} {u : Nat} {s l τ x y : Int32} (h : zI n K C M) (hu : u < n) (h2 : ¬ M 41 u = 2) (hs : 0 ≤ s.toInt ∧ s.toInt < (M 6 u).toInt) (hc : M (8 + u) (ix (M 6 u - 1)) = 0) (hg : (M 43 u).toInt < (M 5 u).toInt) (hl : zr1 l 0 3) (hτ : 0 ≤ τ.toInt ∧ τ.toInt ≤ 840 * K) :
    zI n K (zup (zup (zup (zup (zup (zup C (ztk u) 6 s) (ztk u) 10 l) (ztk u) 11 τ) (ztk u) 5 1) (ztk u) 9 x) 0 11 y) (zup (zup (zup (zup (zup (zup M 42 u s) 46 u l) 47 u τ) 41 u 1) 45 u x) 0 9 y) := by
  have hn := zI_n h
  have hE := zI_E h
  have hT := zI_T h hu
  generalize hM' : zup (zup (zup (zup (zup (zup M 42 u s) 46 u l) 47 u τ) 41 u 1) 45 u x) 0 9 y = M'
  generalize hC' : zup (zup (zup (zup (zup (zup C (ztk u) 6 s) (ztk u) 10 l) (ztk u) 11 τ) (ztk u) 5 1) (ztk u) 9 x) 0 11 y = C'
  have e : zE n C' M' := by
    rw [← hM', ← hC']
    refine zE_u hn (zE_u hn (zE_u hn (zE_u hn (zE_u hn (zE_c hn (zE_m hE (f := 42) (j := u) (by unfold zdm; omega)) (znd_t (by decide))) (f := 46) (j := u) (by unfold zdm; omega) rfl rfl) (f := 47) (j := u) (by unfold zdm; omega) rfl rfl) (f := 41) (j := u) (by unfold zdm; omega) rfl rfl) (f := 45) (j := u) (by unfold zdm; omega) rfl rfl) (f := 0) (j := 9) (by unfold zdm; omega) rfl rfl
  have k : zk M M' := by
    rw [← hM']
    exact zk_up (zk_up (zk_up (zk_up (zk_up (zk_up (zk_r (zI_W h)) (f := 42) (by rfl) (zr_any _)) (f := 46) (by rfl) hl) (f := 47) (by rfl) (zr_any _)) (f := 41) (by rfl) zst_1) (f := 45) (by rfl) (zr_any _)) (f := 0) (j := 9) (by rfl) (zr_any _)
  have m41 : ∀ t, M' 41 t = if t = u then 1 else M 41 t := by rw [← hM']; exact fun t => rfl
  have m42 : ∀ t, M' 42 t = if t = u then s else M 42 t := by rw [← hM']; exact fun t => rfl
  have m43 : ∀ t, M' 43 t = M 43 t := by rw [← hM']; exact fun t => rfl
  have m47 : ∀ t, M' 47 t = if t = u then τ else M 47 t := by rw [← hM']; exact fun t => rfl
  have m48 : ∀ t, M' 48 t = M 48 t := by rw [← hM']; exact fun t => rfl
  have m49 : ∀ t, M' 49 t = M 49 t := by rw [← hM']; exact fun t => rfl
  have m50 : ∀ t, M' 50 t = M 50 t := by rw [← hM']; exact fun t => rfl
  have m68 : ∀ t, M' 68 t = M 68 t := by rw [← hM']; exact fun t => rfl
  have m69 : ∀ t, M' 69 t = M 69 t := by rw [← hM']; exact fun t => rfl
  have m101 : ∀ t, M' 101 t = M 101 t := by rw [← hM']; exact fun t => rfl
  have m01 : M' 0 1 = M 0 1 := by rw [← hM']; rfl
  have m06 : M' 0 6 = M 0 6 := by rw [← hM']; rfl
  have m010 : M' 0 10 = M 0 10 := by rw [← hM']; rfl
  have cb : ∀ t b, b ≠ 6 → b ≠ 10 → b ≠ 11 → b ≠ 5 → b ≠ 9 → C' (ztk t) b = C (ztk t) b := by
    intro t b b1 b2 b3 b4 b5
    rw [← hC', zup_a (ztk_lo (by decide)), zup_b b5, zup_b b4, zup_b b3, zup_b b2, zup_b b1]
  have c6 : ∀ t, C' (ztk t) 6 = if t = u then s else C (ztk t) 6 := by
    intro t
    rw [← hC', zup_a (ztk_lo (by decide)), zup_b (by decide), zup_b (by decide), zup_b (by decide), zup_b (by decide)]
    by_cases c : t = u
    · rw [if_pos c, c, zup_at]
    · rw [if_neg c, zup_a (ztk_ne c)]
  have c12 : C' 0 12 = C 0 12 := by
    rw [← hC', zup_b (by decide), zup_b (by decide), zup_b (by decide), zup_b (by decide), zup_b (by decide), zup_b (by decide)]
  have h1u : M' 41 u = 1 := by rw [m41, if_pos rfl]
  refine zI_mk h (Nat.le_refl _) hu e k (fun t ht => cb t 0 (by decide) (by decide) (by decide) (by decide) (by decide)) (fun t htu ht => ?_) (fun t htu ht => ?_) (fun t htu ht => ?_) ?_ ?_ ?_ ?_ ?_ ?_ m01
  · rw [m41, m42, m43, m47, m48, m49, if_neg htu, if_neg htu, if_neg htu]
    exact ⟨rfl, rfl, rfl, rfl, rfl, rfl⟩
  · rw [c6, if_neg htu, cb t 13 (by decide) (by decide) (by decide) (by decide) (by decide)]
    exact ⟨rfl, rfl⟩
  · refine ⟨?_, ?_, fun j => ?_, fun j => ?_⟩
    · rw [← hM']; exact (show (if t = u then l else M 46 t) = M 46 t from if_neg htu)
    · rw [← hC']; repeat rw [zup_a (by first | omega | (unfold ztk; omega))]
    · rw [← hC']; repeat rw [zup_a (by first | omega | (unfold ztk; omega))]
    · rw [← hM']; repeat rw [zup_a (by first | omega | (unfold ztk; omega))]
  · have r3 : M' 6 u = M 6 u := k.2 6 u rfl
    have r4 : M' 5 u = M 5 u := k.2 5 u rfl
    have r1 : M' (8 + u) = M (8 + u) := by
      rw [← hM', zup_ne _ _ _ (by omega), zup_ne _ _ _ (by omega), zup_ne _ _ _ (by omega), zup_ne _ _ _ (by omega), zup_ne _ _ _ (by omega), zup_ne _ _ _ (by omega)]
    have r2 : M' (25 + u) = M (25 + u) := by
      rw [← hM', zup_ne _ _ _ (by omega), zup_ne _ _ _ (by omega), zup_ne _ _ _ (by omega), zup_ne _ _ _ (by omega), zup_ne _ _ _ (by omega), zup_ne _ _ _ (by omega)]
    refine ⟨fun _ => ?_, fun h9 => ?_, fun h9 => ?_, fun h9 => ?_, fun _ _ => ?_, fun _ _ => ?_, fun q hq => ?_, fun h9 => ?_⟩
    · rw [c6, m42, if_pos rfl, if_pos rfl]
    · rw [h1u] at h9
      exact absurd h9 (by decide)
    · rw [h1u] at h9
      exact absurd h9 (by decide)
    · rw [h1u] at h9
      exact absurd h9 (by decide)
    · rw [m42, if_pos rfl, r3, r1]
      exact ⟨hs, hc⟩
    · rw [m43, r4]
      exact hg
    · rw [r1, r2]
      rw [r3] at hq
      exact hT.2.2.2.2.2.2.1 q hq
    · rw [h1u] at h9
      exact absurd h9 (by decide)
  · have hA := zI_A h
    refine zAr_s (u := u) (Nat.le_refl _) hA (by rw [c12]; have := hA.1; omega) m010 (fun t ht htu => ?_) (by rw [h1u]; decide)
    rw [m41, if_neg htu, m50, cb t 14 (by decide) (by decide) (by decide) (by decide) (by decide)]
    exact ⟨rfl, rfl, rfl⟩
  · refine zOn_same (zI_O h) m06 (fun p _ => m68 p) (fun t ht => ?_)
    rw [m41]
    by_cases c : t = u
    · rw [if_pos c, c]
      exact ⟨fun h9 => absurd h9 (by decide), fun h9 => absurd h9 h2⟩
    · rw [if_neg c]
  · refine zHd_s (zI_D h) (fun p t hp ht he => ?_)
    rw [m68] at he
    rw [m69, cb t 12 (by decide) (by decide) (by decide) (by decide) (by decide)]
    exact ⟨he, rfl, rfl⟩
  · refine zBk_s (zI_W h) (zI_B h) (fun t ht h9 => ?_) (fun q _ hq => by rw [m101]; exact hq)
    rw [m41] at h9
    by_cases c : t = u
    · rw [if_pos c] at h9
      exact absurd h9 (by decide)
    · rw [if_neg c] at h9
      rw [m49]
      exact ⟨h9, rfl⟩
  · rw [m47, if_pos rfl]
    exact hτ
theorem zI_wake {n K : Nat} {C M : zSg} {u : Nat} {s : Int32} (h : zI n K C M) (hu : u < n) (h0 : ¬ M 41 u = 0) (h6 : ¬ M 41 u = 6) (h2 : ¬ M 41 u = 2) (hs : 0 ≤ s.toInt ∧ s.toInt < (M 6 u).toInt) : zI n K (cF_wake (zup C (ztk u) 6 s) u) (mF_wake (zup M 42 u s) (nI u)) := by
  have hn := zI_n h
  have hT := zI_T h hu
  rw [cF_wake_ch, mF_wake_ch _ (by omega)]
  have a1 : qCL (zup C (ztk u) 6 s) u = qML M u := by
    rw [← qCL_eq h hu]
    unfold qCL
    rw [zup_b (k := 6) (j := 10) (by decide), zup_b (k := 6) (j := 1) (by decide)]
  have a2 : qML (zup M 42 u s) u = qML M u := rfl
  have e1 : zE n (zup C (ztk u) 10 (qML M u)) (zup M 46 u (qML M u)) := zE_u hn (zI_E h) (f := 46) (by unfold zdm; omega) rfl rfl
  have e3 : zE n (zup (zup C (ztk u) 6 s) (ztk u) 10 (qML M u)) (zup (zup M 42 u s) 46 u (qML M u)) := zE_u hn (zE_c hn (zE_m (zI_E h) (f := 42) (by unfold zdm; omega)) (znd_t (by decide))) (f := 46) (by unfold zdm; omega) rfl rfl
  have b1 := least_eq (M := zup (zup M 42 u s) 46 u (qML M u)) hn (show ix (M 0 15) = n from zI_ix h) e3 (fun t h1 h2 => show M 41 t = 0 from zI_H h h1 h2) (u := u) (by omega)
  have b2 : mF_least (zup (zup M 42 u s) 46 u (qML M u)) (nI u) = mF_least (zup M 46 u (qML M u)) (nI u) := rfl
  have a4 : qMT (zup M 42 u s) u = qMT M u := rfl
  have a3 : qCT (zup C (ztk u) 6 s) u = qMT M u := by
    unfold qCT qMT
    rw [a1, b1, b2, zup_b (k := 6) (j := 11) (by decide), zup_b (k := 6) (j := 1) (by decide), ze_way (zI_E h), ze_time (zI_E h) (by omega)]
  rw [a1, a2, a3, a4, zup_b (k := 6) (j := 11) (x := 0) (by decide), ze_ns (zI_E h)]
  exact zI_rdy h hu h2 hs (hT.2.2.2.2.1 h0 h6).2 (hT.2.2.2.2.2.1 h0 h6) (qML_r (zI_W h) u) (qMT_r h hu)
theorem zI_wk {n K : Nat} {C M : zSg} {u : Nat} (h : zI n K C M) (hu : u < n) (h3 : M 41 u = 3) : zI n K (cF_wake C u) (mF_wake M (nI u)) := by
  have hT := zI_T h hu
  have a := zI_wake (s := M 42 u) h hu (by rw [h3]; decide) (by rw [h3]; decide) (by rw [h3]; decide) (hT.2.2.2.2.1 (by rw [h3]; decide) (by rw [h3]; decide)).1
  have e := hT.1 (by rw [h3]; decide)
  rw [zup_self, ← e, zup_self] at a
  exact a
theorem zI_wakes {n K : Nat} {C M : zSg} (h : zI n K C M) : zI n K (cF_wakes C) (mT_c M) := by
  have hn := zI_n h
  unfold cF_wakes mT_c
  rw [zI_ix h]
  refine q_fold2 (R := fun _ C M => zI n K C M) (fun k s => cB_wk k s) (fun k s => mB_wk k s) 16 n hn h (fun k C M hk h => ?_) (fun k C M h1 h2 h => ?_)
  · unfold cB_wk mB_wk
    rw [zI_st h (by omega)]
    by_cases c : M 41 k = 3
    · rw [if_pos c, if_pos c, (zI_T h hk).2.2.1 c, ze_clk (zI_E h)]
      by_cases c2 : M 0 1 < M 48 k
      · rw [if_pos c2, if_pos c2]
        exact h
      · rw [if_neg c2, if_neg c2]
        exact zI_wk h hk c
    · rw [if_neg c, if_neg c]
      exact h
  · unfold cB_wk
    rw [zI_st h h2, zI_H h h1 h2, if_neg (by decide)]
    exact h
