/-! The trace, where it is left alone -/
def zKc (C C' : zSg) : Prop := ∀ a b, a = 3 ∨ a = 5 ∨ a = 6 ∨ a = 7 → C' a b = C a b
def zKm (M M' : zSg) : Prop := (∀ j, j = 0 ∨ j = 1 ∨ j = 11 ∨ j = 12 ∨ j = 13 ∨ j = 14 → M' 0 j = M 0 j) ∧ ∀ f j, 71 ≤ f → f < 101 → M' f j = M f j
theorem zKc_r (C : zSg) : zKc C C := fun _ _ _ => rfl
theorem zKm_r (M : zSg) : zKm M M := ⟨fun _ _ => rfl, fun _ _ _ _ => rfl⟩
theorem zKc_t {A B C : zSg} (h : zKc A B) (h2 : zKc B C) : zKc A C := fun a b q => (h2 a b q).trans (h a b q)
theorem zKm_t {A B C : zSg} (h : zKm A B) (h2 : zKm B C) : zKm A C := ⟨fun j q => (h2.1 j q).trans (h.1 j q), fun f j a b => (h2.2 f j a b).trans (h.2 f j a b)⟩
theorem zKc_up {C C' : zSg} (h : zKc C C') {a b : Nat} {v : Int32} (ha : ¬ (a = 3 ∨ a = 5 ∨ a = 6 ∨ a = 7)) : zKc C (zup C' a b v) := fun x y q => by
  rw [zup_a (show x ≠ a by omega)]
  exact h x y q
theorem zKc_ut {C C' : zSg} (h : zKc C C') {t b : Nat} {v : Int32} : zKc C (zup C' (ztk t) b v) := zKc_up h (by unfold ztk; omega)
theorem zKm_up {M M' : zSg} (h : zKm M M') {f j : Nat} {v : Int32} (hf : ¬ (f = 0 ∧ (j = 0 ∨ j = 1 ∨ j = 11 ∨ j = 12 ∨ j = 13 ∨ j = 14)) ∧ ¬ (71 ≤ f ∧ f < 101)) : zKm M (zup M' f j v) := by
  refine ⟨fun y q => ?_, fun x y a b => ?_⟩
  · rw [zup_o (fun e => hf.1 ⟨e.1.symm, by rw [← e.2]; exact q⟩)]
    exact h.1 y q
  · rw [zup_a (fun e => hf.2 (by omega))]
    exact h.2 x y a b
theorem zKc_fold {C : zSg} (b : Nat → zSg → zSg) (N : Nat) (hb : ∀ k s, k < N → zKc C s → zKc C (b k s)) {s : zSg} (h : zKc C s) : zKc C ((List.range N).foldl (fun s k => b k s) s) :=
  q_fold (P := fun _ s => zKc C s) b N h (fun k s hk hs => hb k s hk hs)
theorem zKm_fold {M : zSg} (b : Nat → zSg → zSg) (N : Nat) (hb : ∀ k s, k < N → zKm M s → zKm M (b k s)) {s : zSg} (h : zKm M s) : zKm M ((List.range N).foldl (fun s k => b k s) s) :=
  q_fold (P := fun _ s => zKm M s) b N h (fun k s hk hs => hb k s hk hs)
theorem zKc_34 {C C' C2 : zSg} (h : zKc C C') (q : z34 C' C2) : zKc C C2 := fun a b e => (q a b (by omega) (by omega)).trans (h a b e)
theorem zKc_lf {C C' C2 : zSg} (h : zKc C C') (q : zLf C' C2) : zKc C C2 := fun a b e => (zLf_a q b (by omega)).trans (h a b e)
/-- the trace, but as many switches for both -/
def zTq (C0 M0 C M : zSg) : Prop := (C 3 0 - C0 3 0 = M 0 11 - M0 0 11) ∧ (∀ b, b ≠ 0 → C 3 b = C0 3 b) ∧ (∀ a b, a = 5 ∨ a = 6 ∨ a = 7 → C a b = C0 a b) ∧ (∀ j, j = 0 ∨ j = 1 ∨ j = 12 ∨ j = 13 ∨ j = 14 → M 0 j = M0 0 j) ∧ ∀ f j, 71 ≤ f → f < 101 → M f j = M0 f j
theorem zTq_of {C0 M0 C M C' M' : zSg} (h : zTq C0 M0 C M) (c : zKc C C') (m : zKm M M') : zTq C0 M0 C' M' := by
  obtain ⟨h1, h2, h3, h4, h5⟩ := h
  exact ⟨by rw [c 3 0 (by decide), m.1 11 (by decide)]; exact h1, fun b hb => (c 3 b (by omega)).trans (h2 b hb), fun a b q => (c a b (by omega)).trans (h3 a b q), fun j q => (m.1 j (by omega)).trans (h4 j q), fun f j a b => (m.2 f j a b).trans (h5 f j a b)⟩
theorem zTq_r (C M : zSg) : zTq C M C M := ⟨by rw [Int32.sub_self, Int32.sub_self], fun _ _ => rfl, fun _ _ _ => rfl, fun _ _ => rfl, fun _ _ _ _ => rfl⟩
theorem zsub_inc {a b c d : Int32} (h : a - b = c - d) : (a + 1) - b = (c + 1) - d := by
  have e : ∀ x y : Int32, (x + 1) - y = (x - y) + 1 := fun x y => by
    rw [Int32.sub_eq_add_neg, Int32.sub_eq_add_neg, Int32.add_assoc, Int32.add_comm 1, ← Int32.add_assoc]
  rw [e, e, h]
theorem zTq_g {C0 M0 C M : zSg} (h : zTq C0 M0 C M) : zTq C0 M0 (zup C 3 0 (C 3 0 + 1)) (zup M 0 11 (M 0 11 + 1)) := by
  obtain ⟨h1, h2, h3, h4, h5⟩ := h
  refine ⟨by rw [zup_at, zup_at]; exact zsub_inc h1, fun b hb => by rw [zup_b hb]; exact h2 b hb, fun a b q => by rw [zup_a (by omega)]; exact h3 a b q, fun j q => by rw [zup_b (by omega)]; exact h4 j q, fun f j a b => by rw [zup_a (by omega)]; exact h5 f j a b⟩
/-! The relation: taking -/
theorem ct_clr {w : Int32} {u : Nat} (hu : u < 16) (hb : bt w u = true) : fb_ct (bt (w &&& (((1 : Int32) <<< (nI u &&& 31)) ^^^ (-1)))) 16 + 1 = fb_ct (bt w) 16 := by
  have h := fb_ct_upd (bt w) false (i := u) (n := 16) hu
  rw [hb] at h
  have e : fb_ct (bt (w &&& (((1 : Int32) <<< (nI u &&& 31)) ^^^ (-1)))) 16 = fb_ct (fun k => if k = u then false else bt w k) 16 := fb_ct_cong (fun k hk => by
    rw [q_clr w (by omega) (by omega)]
    by_cases c : k = u
    · rw [if_pos c, decide_eq_true c, Bool.not_true, Bool.and_false]
    · rw [if_neg c, decide_eq_false c, Bool.not_false, Bool.and_true])
  rw [e]
  simpa using h
theorem cF_ofGroup_nI (C : zSg) {g : Nat} (hg : g < 4) : cF_ofGroup C (nI g) = if C 2 g = 0 then (zup C 14 g (C 14 g + 1), true) else if C 9 g + C 14 g < C 2 g then (zup C 14 g (C 14 g + 1), true) else (C, false) := by
  unfold cF_ofGroup
  rw [if_neg (nI_pos (by omega)), if_pos (zlt_T (x := 4) (by decide) hg), zix (by omega)]
def zGd (n : Nat) (M : zSg) (T : Nat → Int32) (c : Nat) : Prop := ∀ k, k < c → ∃ t, t < n ∧ T k = nI t ∧ (M 41 t = 1 ∨ M 41 t = 2)
theorem tk_loop {n K : Nat} {C M : zSg} {L : Nat → Int32} (h : zI n K C M) (hL : ∀ t, t < n → C (ztk t) 15 = L t) :
    ∀ (j f : Nat) (w : Int32) (c : Nat) (P T : Nat → Int32) (C' : zSg), j < f → c ≤ 3 → z34 C C' → (∀ g, g < 4 → C' 9 g + C' 14 g = P g) → (∀ k, k < c → C' 13 k = T k) → zGd n M T c → (c : Int) ≤ (M 0 6).toInt → (∀ i, i < 32 → bt w i = true → i < n ∧ (M 41 i = 1 ∨ M 41 i = 2)) → fb_ct (bt w) 16 ≤ j →
    ∃ (c' : Nat) (T' : Nat → Int32), mF_tk M L f w c P T = some (c', T') ∧ (cF_tio j C' w c).2 = c' ∧ z34 C (cF_tio j C' w c).1 ∧ c' ≤ 3 ∧ (c' : Int) ≤ (M 0 6).toInt ∧ (∀ k, k < c' → (cF_tio j C' w c).1 13 k = T' k) ∧ zGd n M T' c' := by
  have hn := zI_n h
  have h61 : 1 ≤ (M 0 6).toInt := (zI_W h 0 6).1
  have h63 : (M 0 6).toInt ≤ 3 := (zI_W h 0 6).2
  intro j
  induction j with
  | zero =>
    intro f w c P T C' hf hc hz hP hT hG hcP hw hct
    obtain ⟨f, rfl⟩ : ∃ f', f = f' + 1 := ⟨f - 1, by omega⟩
    have h0 : w = 0 := b_ext fun i hi => by
      rw [b_0]
      cases hb : bt w i
      · rfl
      · have h1 := (hw i hi hb).1
        have h2 := fb_ct_zero.mp (show fb_ct (bt w) 16 = 0 by omega) i (by omega)
        rw [h2] at hb
        cases hb
    rw [mF_tk, if_pos h0]
    exact ⟨c, T, rfl, rfl, hz, hc, hcP, hT, hG⟩
  | succ j ih =>
    intro f w c P T C' hf hc hz hP hT hG hcP hw hct
    obtain ⟨f, rfl⟩ : ∃ f', f = f' + 1 := ⟨f - 1, by omega⟩
    have hI : zI n K C' M := zI_q h (z34_q hz)
    have hL' : ∀ t, t < n → C' (ztk t) 15 = L t := fun t ht => (hz _ _ (ztk_lo (by decide)) (ztk_lo (by decide))).trans (hL t ht)
    have hpr : C' 1 0 = M 0 6 := ze_pr (zI_E hI)
    rcases first_eq hI hL' hw with ⟨e1, e2, e3⟩ | ⟨u, hu, e1, e2, e3⟩
    · rw [mF_tk, if_pos e3]
      have eC : cF_tio (j + 1) C' w c = (C', c) := by
        rw [cF_tio, e1]
        by_cases d : nI c < C' 1 0
        · rw [if_pos d]
        · rw [if_neg d]
      rw [eC]
      exact ⟨c, T, rfl, rfl, hz, hc, hcP, hT, hG⟩
    · have hw0 : ¬ w = 0 := fun e => by
        rw [e, b_0] at e3
        cases e3
      by_cases d : nI c < M 0 6
      · have hc3 : c < 3 := by
          rw [Int32.lt_iff_toInt_lt, nI_toInt (by omega)] at d
          omega
        have hc1 : ((c + 1 : Nat) : Int) ≤ (M 0 6).toInt := by
          rw [Int32.lt_iff_toInt_lt, nI_toInt (by omega)] at d
          omega
        obtain ⟨g, hg, eg⟩ : ∃ g, g < 4 ∧ M 4 u = nI g := vp_in_of (zin_r (a := 0) (b := 3) (n := 4) (zI_W h 4 u) (by decide) (by decide)) (by decide)
        have hU : C' (ztk u) 0 = nI u := zI_U hI (by omega)
        have eM : mF_tk M L (f + 1) w c P T = if 0 < M 1 g then (if P g < M 1 g then mF_tk M L f (w &&& (((1 : Int32) <<< (nI u &&& 31)) ^^^ (-1))) (c + 1) (upd P g (P g + 1)) (upd T c (nI u)) else mF_tk M L f (w &&& (((1 : Int32) <<< (nI u &&& 31)) ^^^ (-1))) c P T) else mF_tk M L f (w &&& (((1 : Int32) <<< (nI u &&& 31)) ^^^ (-1))) (c + 1) (upd P g (P g + 1)) (upd T c (nI u)) := by
          rw [mF_tk, if_neg hw0, if_pos d, e2, if_neg (nI_nm u (by omega)), zix (show u < 2147483648 by omega), eg, zix (show g < 2147483648 by omega)]
        have eC : cF_tio (j + 1) C' w c = if (cF_ofGroup C' (nI g)).2 = true then cF_tio j (zup (cF_ofGroup C' (nI g)).1 13 c ((cF_ofGroup C' (nI g)).1 (ztk u) 0)) (w &&& (((1 : Int32) <<< (nI u &&& 31)) ^^^ (-1))) (c + 1) else cF_tio j (cF_ofGroup C' (nI g)).1 (w &&& (((1 : Int32) <<< (nI u &&& 31)) ^^^ (-1))) c := by
          rw [cF_tio, hpr, if_pos d, e1]
          show (if nI c < 3 then _ else _) = _
          rw [if_pos (zlt_T (x := 3) (by decide) hc3), hU, ze_grp (zI_E hI) (by omega), eg]
        have hct' := ct_clr (w := w) (u := u) (by omega) e3
        have hw' : ∀ i, i < 32 → bt (w &&& (((1 : Int32) <<< (nI u &&& 31)) ^^^ (-1))) i = true → i < n ∧ (M 41 i = 1 ∨ M 41 i = 2) := by
          intro i hi hb
          rw [q_clr w (by omega) hi, Bool.and_eq_true] at hb
          exact hw i hi hb.1
        have hta : ∃ (c' : Nat) (T' : Nat → Int32), mF_tk M L f (w &&& (((1 : Int32) <<< (nI u &&& 31)) ^^^ (-1))) (c + 1) (upd P g (P g + 1)) (upd T c (nI u)) = some (c', T') ∧ (cF_tio j (zup (zup C' 14 g (C' 14 g + 1)) 13 c (nI u)) (w &&& (((1 : Int32) <<< (nI u &&& 31)) ^^^ (-1))) (c + 1)).2 = c' ∧ z34 C (cF_tio j (zup (zup C' 14 g (C' 14 g + 1)) 13 c (nI u)) (w &&& (((1 : Int32) <<< (nI u &&& 31)) ^^^ (-1))) (c + 1)).1 ∧ c' ≤ 3 ∧ (c' : Int) ≤ (M 0 6).toInt ∧ (∀ k, k < c' → (cF_tio j (zup (zup C' 14 g (C' 14 g + 1)) 13 c (nI u)) (w &&& (((1 : Int32) <<< (nI u &&& 31)) ^^^ (-1))) (c + 1)).1 13 k = T' k) ∧ zGd n M T' c' := by
          refine ih f _ (c + 1) _ _ _ (by omega) (by omega) (z34_up (z34_up hz _ (Or.inr rfl)) _ (Or.inl rfl)) (fun g2 hg2 => ?_) (fun k hk => ?_) (fun k hk => ?_) hc1 hw' (by omega)
          · rw [zup_a (a := 13) (by decide), zup_a (a := 13) (by decide), zup_a (x := 9) (a := 14) (by decide)]
            unfold upd
            by_cases e : g2 = g
            · rw [if_pos e, e, zup_at, ← hP g hg, Int32.add_assoc]
            · rw [if_neg e, zup_b e]
              exact hP g2 hg2
          · unfold upd
            by_cases e : k = c
            · rw [if_pos e, e, zup_at]
            · rw [if_neg e, zup_b e, zup_a (by decide)]
              exact hT k (by omega)
          · unfold upd
            by_cases e : k = c
            · rw [if_pos e]
              exact ⟨u, hu, rfl, (hw u (by omega) e3).2⟩
            · rw [if_neg e]
              exact hG k (by omega)
        have hX : zup C' 14 g (C' 14 g + 1) (ztk u) 0 = nI u := by
          rw [zup_a (ztk_lo (by decide))]
          exact hU
        rw [eM, eC, cF_ofGroup_nI C' hg, ze_quota (zI_E hI) hg, hP g hg]
        have hq0 : 0 ≤ (M 1 g).toInt := (zI_W h 1 g).1
        by_cases q0 : M 1 g = 0
        · rw [if_neg (by rw [q0]; decide), if_pos q0]
          show ∃ c' T', _ = some (c', T') ∧ (if true = true then _ else _ : zSg × Nat).2 = c' ∧ _
          rw [if_pos rfl]
          dsimp only
          rw [hX]
          exact hta
        · have qp : 0 < M 1 g := by
            rw [Int32.lt_iff_toInt_lt, show (0 : Int32).toInt = 0 from rfl]
            have : (M 1 g).toInt ≠ 0 := fun e => q0 (Int32.toInt_inj.mp e)
            omega
          rw [if_pos qp, if_neg q0]
          by_cases ql : P g < M 1 g
          · rw [if_pos ql, if_pos ql]
            show ∃ c' T', _ = some (c', T') ∧ (if true = true then _ else _ : zSg × Nat).2 = c' ∧ _
            rw [if_pos rfl]
            dsimp only
            rw [hX]
            exact hta
          · rw [if_neg ql, if_neg ql]
            show ∃ c' T', _ = some (c', T') ∧ (if false = true then _ else _ : zSg × Nat).2 = c' ∧ _
            rw [if_neg (by decide)]
            exact ih f _ c P T C' (by omega) hc hz hP hT hG hcP hw' (by omega)
      · have eM : mF_tk M L (f + 1) w c P T = some (c, T) := by
          rw [mF_tk, if_neg hw0, if_neg d]
        have eC : cF_tio (j + 1) C' w c = (C', c) := by
          rw [cF_tio, hpr, if_neg d]
        rw [eM, eC]
        exact ⟨c, T, rfl, rfl, hz, hc, hcP, hT, hG⟩
theorem takes_eq {n K : Nat} {C M : zSg} (h : zI n K C M) (hL : ∀ t, t < n → C (ztk t) 15 = mF_lent M (nI t)) {f : Nat} (hf : 16 < f) :
    ∃ (c : Nat) (T : Nat → Int32), mF_tk M (mF_left M).1 f (mF_left M).2 0 (M 2) (fun _ => 0) = some (c, T) ∧ (cF_takes C).2 = c ∧ z34 C (cF_takes C).1 ∧ c ≤ 3 ∧ (c : Int) ≤ (M 0 6).toInt ∧ (∀ k, k < c → (cF_takes C).1 13 k = T k) ∧ zGd n M T c := by
  have hn := zI_n h
  have h61 : 1 ≤ (M 0 6).toInt := (zI_W h 0 6).1
  have h0 : z34 C (cF_tog0 C) ∧ ∀ g, g < 4 → cF_tog0 C 14 g = 0 := by
    refine q_fold (P := fun m s => z34 C s ∧ ∀ g, g < m → s 14 g = 0) (fun k s => zup s 14 k 0) 4 ⟨fun _ _ _ _ => rfl, fun g hg => absurd hg (Nat.not_lt_zero g)⟩ (fun k s hk hs => ⟨z34_up hs.1 _ (Or.inr rfl), fun g hg => ?_⟩)
    by_cases e : g = k
    · rw [e]; exact zup_at _ _ _ _
    · rw [zup_b e]; exact hs.2 g (by omega)
  unfold cF_takes
  rw [left_eq h]
  refine tk_loop h (fun t ht => ?_) 16 f _ 0 _ _ _ hf (by decide) h0.1 (fun g hg => ?_) (fun k hk => absurd hk (Nat.not_lt_zero k)) (fun k hk => absurd hk (Nat.not_lt_zero k)) (by show (0 : Int) ≤ _; omega) (fun i hi hb => ?_) (fb_ct_le _ 16)
  · rw [mF_left_L t (by rw [zI_ix h]; exact ht)]
    exact hL t ht
  · rw [h0.2 g hg, h0.1 9 g (by decide) (by decide), Int32.add_zero]
    exact ze_used (zI_E h) hg
  · have := (mF_left_b (zI_W h) hi).mp hb
    rw [zI_ix h] at this
    exact this
theorem mF_any_iff {r : Nat → Int32} {m : Nat} {t : Int32} : mF_any r m t = true ↔ ∃ k, k < m ∧ r k = t := by
  unfold mF_any
  rw [List.any_eq_true]
  constructor
  · rintro ⟨k, hk, e⟩
    exact ⟨k, List.mem_range.mp hk, by simpa using e⟩
  · rintro ⟨k, hk, e⟩
    exact ⟨k, List.mem_range.mpr hk, by simpa using e⟩
theorem cF_tkn_iff {C : zSg} {i c : Nat} (hc : c ≤ 3) : ∀ (j p : Nat), p + j ≤ 3 → (cF_tkn C i (nI c) j p = true ↔ ∃ k, p ≤ k ∧ k < p + j ∧ k < c ∧ C 13 k = C (ztk i) 0) := by
  intro j
  induction j with
  | zero =>
    intro p hp
    refine ⟨fun e => ?_, fun ⟨k, h1, h2, _⟩ => by omega⟩
    cases e
  | succ j ih =>
    intro p hp
    rw [cF_tkn]
    by_cases d : nI p < nI c
    · rw [if_pos d]
      have hpc : p < c := (nI_ltI (by omega) (by omega)).mp d
      by_cases e : C 13 p = C (ztk i) 0
      · rw [if_pos e]
        exact ⟨fun _ => ⟨p, Nat.le_refl _, by omega, hpc, e⟩, fun _ => rfl⟩
      · rw [if_neg e, ih (p + 1) (by omega)]
        constructor
        · rintro ⟨k, h1, h2, h3, h4⟩
          exact ⟨k, by omega, by omega, h3, h4⟩
        · rintro ⟨k, h1, h2, h3, h4⟩
          have : k ≠ p := fun e9 => e (e9 ▸ h4)
          exact ⟨k, by omega, by omega, h3, h4⟩
    · rw [if_neg d]
      have hpc : ¬ p < c := fun e => d ((nI_ltI (by omega) (by omega)).mpr e)
      refine ⟨fun e => ?_, fun ⟨k, h1, h2, h3, _⟩ => by omega⟩
      cases e
theorem taken_eq {C : zSg} {i c : Nat} {T : Nat → Int32} (hc : c ≤ 3) (hT : ∀ k, k < c → C 13 k = T k) (hU : C (ztk i) 0 = nI i) : cF_isTaken C i (nI c) = mF_any T c (nI i) := by
  refine bt_iff ?_
  unfold cF_isTaken
  rw [cF_tkn_iff hc 3 0 (by decide), mF_any_iff, hU]
  constructor
  · rintro ⟨k, _, _, h3, h4⟩
    exact ⟨k, h3, by rw [← hT k h3]; exact h4⟩
  · rintro ⟨k, h3, h4⟩
    exact ⟨k, Nat.zero_le _, by omega, h3, by rw [hT k h3]; exact h4⟩
/-- those that are not taken lose their processors -/
theorem zI_keep {n K c : Nat} {C M C0 M0 : zSg} {T : Nat → Int32} (h : zI n K C M) (q : zTq C0 M0 C M) (hc : c ≤ 3) (hT : ∀ k, k < c → C 13 k = T k) :
    zI n K ((List.range 3).foldl (fun s k => cB_drop (nI c) k s) C) (mF_keep T c M) ∧ zTq C0 M0 ((List.range 3).foldl (fun s k => cB_drop (nI c) k s) C) (mF_keep T c M) ∧ (∀ k, k < c → (List.range 3).foldl (fun s k => cB_drop (nI c) k s) C 13 k = T k) ∧ zsc M (mF_keep T c M) ∧
    (∀ t, M 41 t = 1 ∨ M 41 t = 2 → mF_keep T c M 41 t = 1 ∨ mF_keep T c M 41 t = 2) ∧ (∀ p, p < 3 → ¬ mF_keep T c M 68 p = -1 → ∃ j, j < c ∧ mF_keep T c M 68 p = T j) := by
  have hP := zmW_p3 (zI_W h)
  have key : zI n K ((List.range 3).foldl (fun s k => cB_drop (nI c) k s) C) (mF_keep T c M) ∧ zTq C0 M0 ((List.range 3).foldl (fun s k => cB_drop (nI c) k s) C) (mF_keep T c M) ∧ (∀ k, k < c → (List.range 3).foldl (fun s k => cB_drop (nI c) k s) C 13 k = T k) ∧ zsc M (mF_keep T c M) ∧
    (∀ t, M 41 t = 1 ∨ M 41 t = 2 → mF_keep T c M 41 t = 1 ∨ mF_keep T c M 41 t = 2) ∧ (∀ p, p < 3 → p < 3 → ¬ mF_keep T c M 68 p = -1 → ∃ j, j < c ∧ mF_keep T c M 68 p = T j) := by
    unfold mF_keep
    refine q_fold2 (R := fun m C' M' => zI n K C' M' ∧ zTq C0 M0 C' M' ∧ (∀ k, k < c → C' 13 k = T k) ∧ zsc M M' ∧ (∀ t, M 41 t = 1 ∨ M 41 t = 2 → M' 41 t = 1 ∨ M' 41 t = 2) ∧ (∀ p, p < 3 → p < m → ¬ M' 68 p = -1 → ∃ j, j < c ∧ M' 68 p = T j)) (fun k s => cB_drop (nI c) k s) (fun k s => mB_keep T c k s) 3 (ix (M 0 6)) hP ⟨h, q, hT, zsc_r M, fun _ e => e, fun p _ hp => absurd hp (Nat.not_lt_zero p)⟩ (fun k C' M' hk hr => ?_) (fun k C' M' h1 h2 hr => ?_)
    · obtain ⟨g1, g2, g3, g4, g5, g6⟩ := hr
      have hn := zI_n h
      show zI n K (cB_drop (nI c) k C') (mB_keep T c k M') ∧ zTq C0 M0 (cB_drop (nI c) k C') (mB_keep T c k M') ∧ (∀ k2, k2 < c → cB_drop (nI c) k C' 13 k2 = T k2) ∧ zsc M (mB_keep T c k M') ∧ (∀ t, M 41 t = 1 ∨ M 41 t = 2 → mB_keep T c k M' 41 t = 1 ∨ mB_keep T c k M' 41 t = 2) ∧ (∀ p, p < 3 → p < k + 1 → ¬ mB_keep T c k M' 68 p = -1 → ∃ j, j < c ∧ mB_keep T c k M' 68 p = T j)
      unfold cB_drop mB_keep
      rw [ze_on (zI_E g1) (by omega)]
      by_cases d : M' 68 k = -1
      · rw [if_pos d, d]
        refine ⟨g1, g2, g3, g4, g5, fun p hp hpk hm => ?_⟩
        by_cases e : p = k
        · rw [e] at hm
          exact absurd d hm
        · exact g6 p hp (by omega) hm
      · obtain ⟨u, hu, eu, h2⟩ := zI_run g1 (by omega) d
        rw [if_neg d, eu, cF_at_nI (by omega), zix (by omega)]
        dsimp only
        rw [taken_eq hc g3 (zI_U g1 (by omega))]
        by_cases d2 : mF_any T c (nI u) = true
        · rw [if_pos d2, if_pos d2]
          refine ⟨g1, g2, g3, g4, g5, fun p hp hpk hm => ?_⟩
          by_cases e : p = k
          · obtain ⟨j, hj, ej⟩ := mF_any_iff.mp d2
            exact ⟨j, hj, by rw [e, eu, ej]⟩
          · exact g6 p hp (by omega) hm
        · rw [if_neg d2, if_neg d2, zup_comm M' 1 (-1) (by omega)]
          refine ⟨zI_off g1 hu (by omega) eu, zTq_of g2 (zKc_ut (zKc_up (zKc_r _) (by decide))) (zKm_up (zKm_up (zKm_r _) (by omega)) (by omega)), fun k2 hk2 => ?_, ?_, fun t ht => ?_, fun p hp hpk hm => ?_⟩
          · rw [zup_a (ztk_lo (by decide)).symm, zup_a (by decide)]
            exact g3 k2 hk2
          · exact zsc_up (zsc_up g4 _ rfl) _ rfl
          · show (if t = u then 1 else M' 41 t) = 1 ∨ (if t = u then 1 else M' 41 t) = 2
            by_cases e : t = u
            · rw [if_pos e]
              exact Or.inl rfl
            · rw [if_neg e]
              exact g5 t ht
          · have e68 : zup (zup M' 68 k (-1)) 41 u 1 68 p = if p = k then -1 else M' 68 p := rfl
            rw [e68] at hm ⊢
            by_cases e : p = k
            · rw [if_pos e] at hm
              exact absurd rfl hm
            · rw [if_neg e] at hm ⊢
              exact g6 p hp (by omega) hm
    · obtain ⟨g1, g2, g3, g4, g5, g6⟩ := hr
      have e : M' 68 k = -1 := (zI_O g1).2.2.2 k h2 (by rw [g4 0 6 rfl]; exact h1)
      show zI n K (cB_drop (nI c) k C') M' ∧ zTq C0 M0 (cB_drop (nI c) k C') M' ∧ (∀ k2, k2 < c → cB_drop (nI c) k C' 13 k2 = T k2) ∧ _
      unfold cB_drop
      rw [ze_on (zI_E g1) h2, e]
      refine ⟨g1, g2, g3, g4, g5, fun p hp hpk hm => ?_⟩
      by_cases e9 : p = k
      · rw [e9] at hm
        exact absurd e hm
      · exact g6 p hp (by omega) hm
  exact ⟨key.1, key.2.1, key.2.2.1, key.2.2.2.1, key.2.2.2.2.1, fun p hp => key.2.2.2.2.2 p hp hp⟩
