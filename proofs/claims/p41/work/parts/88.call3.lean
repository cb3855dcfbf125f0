/-! The calls: what is tried on a copy -/
def zU (B : zSg) : Prop := ∀ t, t < 16 → B (ztk t) 0 = nI t
def zAgB (L : List String) (K : Nat) (R : zRs) (A : zSg) (P : zSg × Int32) : Prop := match R with
  | .inl q => q.2 = P.2 ∧ P.1 0 0 = 0 ∧ (∃ n, zQR n K A P.1) ∧ zU q.1
  | .inr E => E ∈ L ∧ P.1 0 0 = eco L E ∧ ∃ n, zQR n K A P.1
theorem agb_x {n K : Nat} {A M : zSg} {L : List String} {E : String} {v : Int32} {R : zRs} {P : zSg × Int32} (h : zQR n K A (zup M 0 0 0)) (hR : R = .inr E) (hP : P = mF_ref (zup M 0 0 0) v) (hE : E ∈ L) (hv : v = eco L E) : zAgB L K R A P := by
  subst hR; subst hP
  exact ⟨hE, (zup_at (zup M 0 0 0) 0 0 v).trans hv, n, zQR_0 h v⟩
theorem agb_g {n K : Nat} {A B M : zSg} {L : List String} {v w : Int32} {R : zRs} {P : zSg × Int32} (h : zQR n K A (zup M 0 0 0)) (hB : zU B) (hR : R = .inl (B, v)) (hP : P = (zup M 0 0 0, w)) (hv : v = w) : zAgB L K R A P := by
  subst hR; subst hP
  exact ⟨hv, zup_at M 0 0 0, ⟨n, h⟩, hB⟩
theorem zU_of {n K : Nat} {A M : zSg} (h : zI n K A M) : zU A := fun t ht => zI_U h ht
theorem done_eq {n f c0 i : Nat} {ds di da : Int32} (hf : 16 < f) (hi : i < n) : ∀ (j k K : Nat) (C M : zSg), zI n K C M → zTr K ds di da c0 C M → K + 4 * j ≤ 190000 → mF_done f (nI i) j k M = some (cF_done i j k C).2 ∧ zU (cF_done i j k C).1 := by
  intro j
  induction j with
  | zero =>
    intro k K C M h tr _
    have hn := zI_n h
    rw [mF_done, cF_done, zix (by omega), zI_st h (by omega)]
    exact ⟨rfl, zU_of h⟩
  | succ j ih =>
    intro k K C M h tr hK
    have hn := zI_n h
    rw [mF_done, cF_done, zix (by omega), zI_st h (by omega)]
    by_cases c : M 41 i = 6
    · rw [if_pos c, if_pos c]
      exact ⟨rfl, zU_of h⟩
    · obtain ⟨M1, e1, h1, t1, _, _, z1⟩ := zI_tick h (by omega) tr hf
      rw [if_neg c, if_neg c, e1]
      exact ih (k + 1) (K + 4) (cF_tick C) M1 h1 t1 (by omega)
theorem mF_blk_y {M : zSg} (h : zBl M) : mF_blk M = true := by
  unfold mF_blk
  rw [List.all_eq_true]
  intro t ht
  have ht := List.mem_range.mp ht
  by_cases c : M 41 t = 4
  · have := h t ht c
    simp [c, this]
  · simp [c]
theorem stk_eq {n f c0 : Nat} {ds di da : Int32} (hf : 16 < f) : ∀ (j k K : Nat) (C M : zSg), zI n K C M → zTr K ds di da c0 C M → K + 4 * j ≤ 190000 → mF_stk f j k M = some (cF_stk j k C).2 ∧ zU (cF_stk j k C).1 := by
  intro j
  induction j with
  | zero =>
    intro k K C M h tr _
    rw [mF_stk, cF_stk, if_pos (mF_blk_y (zI_bl h)), stuck_eq h]
    exact ⟨rfl, zU_of h⟩
  | succ j ih =>
    intro k K C M h tr hK
    rw [mF_stk, cF_stk, if_pos (mF_blk_y (zI_bl h)), stuck_eq h]
    by_cases c : mF_stuck M = 0
    · obtain ⟨M1, e1, h1, t1, _, _, z1⟩ := zI_tick h (by omega) tr hf
      rw [if_pos c, if_pos c, e1]
      exact ih (k + 1) (K + 4) (cF_tick C) M1 h1 t1 (by omega)
    · rw [if_neg c, if_neg c]
      exact ⟨rfl, zU_of h⟩
/-- a setting, or a rank -/
theorem zI_set {n K a b f j : Nat} {C M : zSg} {v w : Int32} (h : zI n K C M) (hd : zdm n f j) (hp : zph f j = (a, b)) (hf : (f = 0 ∧ (j = 2 ∨ j = 3 ∨ j = 4 ∨ j = 5)) ∨ f = 1 ∨ f = 3) (ha : (a = 1 ∧ 1 ≤ b) ∨ a = 2 ∨ (15 ≤ a ∧ (a - 15) % 5 = 0 ∧ b = 3)) (hr : zr1 w (zlo f j) (zhi f j)) (hv : v = w) : zI n K (zup C a b v) (zup M f j w) := by
  have hn := zI_n h
  have mo : ∀ f' j', ¬ (f' = 0 ∧ (j' = 2 ∨ j' = 3 ∨ j' = 4 ∨ j' = 5)) → f' ≠ 1 → f' ≠ 3 → zup M f j w f' j' = M f' j' := fun f' j' h0 h1 h3 => zup_o (fun e => by omega)
  have co : ∀ t b', t < 16 → b' ≠ 3 → zup C a b v (ztk t) b' = C (ztk t) b' := fun t b' ht hb => zup_o (fun e => by
    have e1 := e.1
    have e2 := e.2
    unfold ztk at e1
    omega)
  have cy : ∀ t j', t < 16 → zup C a b v (ztk t + 4) j' = C (ztk t + 4) j' := fun t b' ht => zup_o (fun e => by
    have e1 := e.1
    unfold ztk at e1
    omega)
  obtain ⟨h1, h2, h3, h4, h5, h6, h7, h8, h9, h10, h11, h12⟩ := h
  refine ⟨⟨h1.1, by rw [mo 0 15 (by omega) (by decide) (by decide)]; exact h1.2⟩, zE_u hn h2 hd hp hv, zmW_up h3 hr, fun t ht => by rw [co t 0 ht (by decide)]; exact h4 t ht, ?_, fun t ht => ?_, ?_, ?_, fun p t hp ht e => ?_, fun t ht e => ?_, fun t ht => ?_, ?_⟩
  · refine ⟨fun t g1 g2 => ?_, fun t ht => by rw [mo 5 t (by omega) (by decide) (by decide)]; exact h5.2 t ht⟩
    have := h5.1 t g1 g2
    refine ⟨by rw [mo 41 t (by omega) (by decide) (by decide)]; exact this.1, by rw [mo 6 t (by omega) (by decide) (by decide)]; exact this.2.1, fun j' hj => ?_⟩
    rw [mo (8 + t) j' (by omega) (by omega) (by omega), mo (25 + t) j' (by omega) (by omega) (by omega)]
    exact this.2.2 j' hj
  · have hT := h6 t ht
    unfold zTk at hT ⊢
    simp only [mo 41 t (by omega) (by decide) (by decide), mo 42 t (by omega) (by decide) (by decide), mo 43 t (by omega) (by decide) (by decide), mo 46 t (by omega) (by decide) (by decide), mo 48 t (by omega) (by decide) (by decide), mo 49 t (by omega) (by decide) (by decide), mo 5 t (by omega) (by decide) (by decide), mo 6 t (by omega) (by decide) (by decide), co t 6 ht (by decide), co t 13 ht (by decide), co t 9 ht (by decide)]
    simp only [fun x => mo (8 + t) x (by omega) (by omega) (by omega), fun x => mo (25 + t) x (by omega) (by omega) (by omega), fun x => mo (52 + t) x (by omega) (by omega) (by omega), fun x => cy t x ht]
    exact hT
  · have c12 : zup C a b v 0 12 = C 0 12 := zup_o (fun e => by omega)
    have m10 := mo 0 10 (by omega) (by decide) (by decide)
    obtain ⟨a1, a2, a3, a4⟩ := h7
    refine ⟨by rw [c12]; exact a1, by rw [m10]; exact a2, fun t ht hs => ?_, fun t u ht hu hs hs2 => ?_⟩
    · rw [mo 41 t (by omega) (by decide) (by decide)] at hs
      rw [c12, m10, mo 50 t (by omega) (by decide) (by decide), co t 14 (by omega) (by decide)]
      exact a3 t ht hs
    · rw [mo 41 t (by omega) (by decide) (by decide)] at hs
      rw [mo 41 u (by omega) (by decide) (by decide)] at hs2
      rw [mo 50 t (by omega) (by decide) (by decide), mo 50 u (by omega) (by decide) (by decide), co t 14 (by omega) (by decide), co u 14 (by omega) (by decide)]
      exact a4 t u ht hu hs hs2
  · exact zOn_same h8 (mo 0 6 (by omega) (by decide) (by decide)) (fun p _ => mo 68 p (by omega) (by decide) (by decide)) (fun t _ => by rw [mo 41 t (by omega) (by decide) (by decide)])
  · rw [mo 68 p (by omega) (by decide) (by decide)] at e
    rw [mo 69 p (by omega) (by decide) (by decide), co t 12 (by omega) (by decide)]
    exact h9 p t hp ht e
  · rw [mo 41 t (by omega) (by decide) (by decide)] at e
    rw [mo 49 t (by omega) (by decide) (by decide), mo 101 _ (by omega) (by decide) (by decide)]
    exact h10 t ht e
  · rw [mo 47 t (by omega) (by decide) (by decide)]
    exact h11 t ht
  · rw [mo 0 1 (by omega) (by decide) (by decide)]
    exact h12
theorem zTr_set {K c0 a b f j : Nat} {ds di da : Int32} {C M : zSg} {v w : Int32} (h : zTr K ds di da c0 C M) (hf : (f = 0 ∧ (j = 2 ∨ j = 3 ∨ j = 4 ∨ j = 5)) ∨ f = 1 ∨ f = 3) (ha : (a = 1 ∧ 1 ≤ b) ∨ a = 2 ∨ (15 ≤ a ∧ (a - 15) % 5 = 0 ∧ b = 3)) : zTr K ds di da c0 (zup C a b v) (zup M f j w) :=
  zTr_k h (zKc_up (zKc_r C) (by omega)) (zKm_up (zKm_r M) (by omega))
theorem zI_rank {n K i : Nat} {C M : zSg} {v : Int32} (h : zI n K C M) (hi : i < n) (hr : 0 ≤ v.toInt ∧ v.toInt ≤ 7) : zI n K (zup C (ztk i) 3 v) (zup M 3 i v) := by
  have hn := zI_n h
  exact zI_set h (by unfold zdm; omega) rfl (Or.inr (Or.inr rfl)) (by unfold ztk; omega) hr rfl
section CB
variable {n K f : Nat} {A B M : zSg}
theorem copy_R (h : zQR n K A (zup M 0 0 0)) (hB : zU B) : zI n K (cC0 A B) (mF_copy (zup M 0 0 0)) ∧ zTr K (A 3 0) (A 3 1) (A 3 2) (ix ((zup M 0 0 0) 0 1)) (cC0 A B) (mF_copy (zup M 0 0 0)) :=
  ⟨zI_copy h.1 cC0_c (fun t ht => (cC0_U ht).trans (hB t ht)), zTr_copy h.1 cC0_c⟩
theorem c_doneWith (h : zQR n K A M) (hB : zU B) (hK : K + 240 ≤ 190000) (hf : 16 < f) (t r u : Int32) : ∃ P, mP_doneWith f M t r u = some P ∧ zAgB LXA K (cP_doneWith A B t r u) A P := by
  have h0 := zQR_0 h 0
  rcases task_eq h0.1 t with ⟨i, hi, rfl, h1, h2⟩ | ⟨h1, h2⟩
  · have hn := zI_n h.1
    rcases rng_eq r 8 (by decide) 7 (by decide) with ⟨q, hq, rfl, h3⟩ | ⟨h3, h4⟩
    · rcases tried_eq u with ⟨g1, g2, g3, g4⟩ | ⟨g1, g2⟩
      · obtain ⟨i1, t1⟩ := copy_R h0 hB
        have i2 := zI_rank (v := nI q) i1 hi (by rw [nI_rng (by omega)]; omega)
        have t2 := zTr_set (a := ztk i) (b := 3) (f := 3) (j := i) (v := nI q) (w := nI q) t1 (by omega) (by unfold ztk; omega)
        have z := ztoInt (x := u) (by omega)
        obtain ⟨e1, e2⟩ := done_eq hf hi (ix u) 0 K _ _ i2 t2 (by omega)
        refine ⟨(zup M 0 0 0, (cF_done i (ix u) 0 (zup (cC0 A B) (ztk i) 3 (nI q))).2), ?_, agb_g h0 e2 (v := (cF_done i (ix u) 0 (zup (cC0 A B) (ztk i) 3 (nI q))).2) ?_ rfl rfl⟩
        · unfold mP_doneWith
          rw [if_pos h1, if_pos h3, if_pos g1, zix (by omega), e1]
          rfl
        · unfold cP_doneWith
          rw [h2]
          dsimp only
          rw [if_neg (nI_pos (by omega)), if_pos (zlt_T (x := 8) (by decide) hq), g2]
      · refine ⟨_, by unfold mP_doneWith; rw [if_pos h1, if_pos h3, if_neg (ff g1)], agb_x h0 (E := eIA) (v := 2) ?_ rfl (by decide) (by decide)⟩
        unfold cP_doneWith
        rw [h2]
        dsimp only
        rw [if_neg (nI_pos (by omega)), if_pos (zlt_T (x := 8) (by decide) hq), g2]
    · refine ⟨_, by unfold mP_doneWith; rw [if_pos h1, if_neg (ff h3)], agb_x h0 (E := eIA) (v := 2) ?_ rfl (by decide) (by decide)⟩
      unfold cP_doneWith
      rw [h2]
      dsimp only
      by_cases c1 : r < 0
      · rw [if_pos c1]
      · rw [if_neg c1, if_neg]
        rw [i_lt, show (0 : Int32).toInt = 0 from rfl] at c1
        rw [i_lt, show (8 : Int32).toInt = 8 from rfl]
        omega
  · exact ⟨_, by unfold mP_doneWith; rw [if_neg (ff h1)], agb_x h0 (E := eIX) (v := 1) (by unfold cP_doneWith; rw [h2]) rfl (by decide) (by decide)⟩
theorem c_doneIn (h : zQR n K A M) (hB : zU B) (hK : K + 240 ≤ 190000) (hf : 16 < f) (t u : Int32) : ∃ P, mP_doneIn f M t u = some P ∧ zAgB LXA K (cP_doneIn A B t u) A P := by
  have h0 := zQR_0 h 0
  rcases task_eq h0.1 t with ⟨i, hi, rfl, h1, h2⟩ | ⟨h1, h2⟩
  · have hn := zI_n h.1
    have hr : zr1 ((zup M 0 0 0) 3 i) 0 7 := zI_W h0.1 3 i
    have er : A (ztk i) 3 = (zup M 0 0 0) 3 i := ze_rank (zI_E h0.1) (by omega)
    obtain ⟨q, hq, eq⟩ : ∃ q, q < 8 ∧ A (ztk i) 3 = nI q := by rw [er]; exact of_rng hr.1 (by have := hr.2; omega)
    have eC : cP_doneIn A B (nI i) u = cP_doneWith A B (nI i) (A (ztk i) 3) u := by
      unfold cP_doneIn
      rw [h2]
    have eS : zup (cC0 A B) (ztk i) 3 (A (ztk i) 3) = cC0 A B := by
      rw [← cC0_c (A := A) (B := B) (ztk i) 3 (zcp_t (by omega) (by omega))]
      exact zup_self _ _ _
    have eW : ∀ x, cR_tried u = x → cP_doneIn A B (nI i) u = (match x with | some E => .inr E | none => .inl (cF_done i (ix u) 0 (cC0 A B))) := by
      intro x hx
      rw [eC]
      unfold cP_doneWith
      rw [h2]
      dsimp only
      rw [if_neg (by rw [eq]; exact nI_pos (by omega)), if_pos (by rw [eq]; exact zlt_T (x := 8) (by decide) hq), hx, eS]
      cases x <;> rfl
    rcases tried_eq u with ⟨g1, g2, g3, g4⟩ | ⟨g1, g2⟩
    · obtain ⟨i1, t1⟩ := copy_R h0 hB
      have z := ztoInt (x := u) (by omega)
      obtain ⟨e1, e2⟩ := done_eq hf hi (ix u) 0 K _ _ i1 t1 (by omega)
      refine ⟨(zup M 0 0 0, (cF_done i (ix u) 0 (cC0 A B)).2), ?_, agb_g h0 e2 (v := (cF_done i (ix u) 0 (cC0 A B)).2) (eW _ g2) rfl rfl⟩
      unfold mP_doneIn
      rw [if_pos h1, if_pos g1, e1]
      rfl
    · exact ⟨_, by unfold mP_doneIn; rw [if_pos h1, if_neg (ff g1)], agb_x h0 (E := eIA) (v := 2) (eW _ g2) rfl (by decide) (by decide)⟩
  · exact ⟨_, by unfold mP_doneIn; rw [if_neg (ff h1)], agb_x h0 (E := eIX) (v := 1) (by unfold cP_doneIn; rw [h2]) rfl (by decide) (by decide)⟩
theorem c_idleIn (h : zQR n K A M) (hB : zU B) (hK : K + 240 ≤ 190000) (hf : 16 < f) (u : Int32) : ∃ P, mP_idleIn f M u = some P ∧ zAgB LA K (cP_idleIn A B u) A P := by
  have h0 := zQR_0 h 0
  rcases tried_eq u with ⟨g1, g2, g3, g4⟩ | ⟨g1, g2⟩
  · obtain ⟨i1, t1⟩ := copy_R h0 hB
    have z := ztoInt (x := u) (by omega)
    obtain ⟨M', e1, h1, tr, z1⟩ := ticks_eq hf (ix u) K _ _ i1 t1 (by omega)
    refine ⟨(zup M 0 0 0, M' 0 12), by unfold mP_idleIn; rw [if_pos g1, e1]; rfl, agb_g h0 (zU_of h1) (v := cF_ticks (cC0 A B) (ix u) 3 1 - A 3 1) (by unfold cP_idleIn; rw [g2]) rfl ?_⟩
    rw [tr.1.2.1, Int32.add_sub_cancel]
  · exact ⟨_, by unfold mP_idleIn; rw [if_neg (ff g1)], agb_x h0 (E := eIA) (v := 1) (by unfold cP_idleIn; rw [g2]) rfl (by decide) (by decide)⟩
theorem c_stuckIn (h : zQR n K A M) (hB : zU B) (hK : K + 240 ≤ 190000) (hf : 16 < f) (u : Int32) : ∃ P, mP_stuckIn f M u = some P ∧ zAgB LA K (cP_stuckIn A B u) A P := by
  have h0 := zQR_0 h 0
  rcases tried_eq u with ⟨g1, g2, g3, g4⟩ | ⟨g1, g2⟩
  · obtain ⟨i1, t1⟩ := copy_R h0 hB
    have z := ztoInt (x := u) (by omega)
    obtain ⟨e1, e2⟩ := stk_eq hf (ix u) 0 K _ _ i1 t1 (by omega)
    exact ⟨(zup M 0 0 0, (cF_stk (ix u) 0 (cC0 A B)).2), by unfold mP_stuckIn; rw [if_pos g1, e1]; rfl, agb_g h0 e2 (v := (cF_stk (ix u) 0 (cC0 A B)).2) (by unfold cP_stuckIn; rw [g2]) rfl rfl⟩
  · exact ⟨_, by unfold mP_stuckIn; rw [if_neg (ff g1)], agb_x h0 (E := eIA) (v := 1) (by unfold cP_stuckIn; rw [g2]) rfl (by decide) (by decide)⟩
end CB
