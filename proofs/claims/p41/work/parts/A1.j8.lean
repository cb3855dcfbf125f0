/-! What the law looks at behind each fifth, of the cells M -/
theorem ct_one {f : Nat → Bool} {p : Nat} : ∀ n, p < n → f p = true → (∀ q, q < n → f q = true → q = p) → fb_ct f n = 1
  | 0, h, _, _ => absurd h (Nat.not_lt_zero p)
  | n + 1, h, h1, h2 => by
    rw [fb_ct_succ]
    by_cases c : p = n
    · subst c
      rw [h1, fb_ct_zero.mpr (fun k hk => bt_ff (fun e => by have := h2 k (by omega) e; omega))]
      rfl
    · have hf : f n = false := bt_ff (fun e => c (h2 n (by omega) e).symm)
      rw [hf, ct_one n (by omega) h1 (fun q hq => h2 q (by omega))]
      rfl
def sT (f : Nat → Nat) : Nat → Nat
  | 0 => 0
  | n + 1 => sT f n + f n
theorem sT_cg {f g : Nat → Nat} : ∀ n, (∀ t, t < n → f t = g t) → sT f n = sT g n
  | 0, _ => rfl
  | n + 1, h => by
    show sT f n + f n = sT g n + g n
    rw [sT_cg n (fun t ht => h t (by omega)), h n (by omega)]
theorem sT_add {f g : Nat → Nat} : ∀ n, sT (fun t => f t + g t) n = sT f n + sT g n
  | 0 => rfl
  | n + 1 => by
    show sT (fun t => f t + g t) n + (f n + g n) = sT f n + f n + (sT g n + g n)
    rw [sT_add n]
    omega
theorem sT_ct {f : Nat → Bool} : ∀ n, sT (fun t => if f t = true then 1 else 0) n = fb_ct f n
  | 0 => rfl
  | n + 1 => by
    show sT (fun t => if f t = true then 1 else 0) n + (if f n = true then 1 else 0) = _
    rw [sT_ct n, fb_ct_succ]
section KF
variable {n K B : Nat} {A M : zSg}
theorem k_on (h : zJT n K B A M) {t : Nat} (ht : t < n) : fb_ct (fun p => decide (M 68 p = nI t)) (ix (M 0 6)) = if M 41 t = 2 then 1 else 0 := by
  have hn := zJT_n h
  have hO := zI_O h.1.1
  have hP := zmW_p3 (zI_W h.1.1)
  by_cases c : M 41 t = 2
  · rw [if_pos c]
    obtain ⟨p, hp, e⟩ := hO.1 t ht c
    have hm : ¬ M 68 p = -1 := by rw [e]; exact nI_nm t (by omega)
    exact ct_one _ (zOn_pp hO hp hm) (decide_eq_true e) (fun q hq e2 => hO.2.2.1 q p (by omega) hp ((of_decide_eq_true e2).trans e.symm) (by rw [of_decide_eq_true e2]; exact nI_nm t (by omega)))
  · rw [if_neg c]
    exact fb_ct_zero.mpr (fun k hk => decide_eq_false (fun e => zOn_no hn hO (u := t) (by omega) c k (by omega) e))
theorem k_at (h : zJT n K B A M) {t : Nat} (s : Int32) : fb_ct (fun q => decide (M 41 t = s ∧ M 49 t = nI q)) 6 = if M 41 t = s then 1 else 0 := by
  by_cases c : M 41 t = s
  · rw [if_pos c]
    obtain ⟨q, hq, e⟩ := z49 (zI_W h.1.1) t
    exact ct_one _ hq (decide_eq_true ⟨c, e⟩) (fun q2 hq2 e2 => nI_inj (by omega) (by omega) ((of_decide_eq_true e2).2.symm.trans e))
  · rw [if_neg c]
    exact fb_ct_zero.mpr (fun k hk => decide_eq_false (fun e => c e.1))
theorem k_run (h : zJT n K B A M) : fb_ct (fun p => decide (¬ M 68 p = -1)) (ix (M 0 6)) = fb_ct (fun t => decide (M 41 t = 2)) n := by
  have hn := zJT_n h
  have hO := zI_O h.1.1
  have hP := zmW_p3 (zI_W h.1.1)
  have key : ∀ k, k ≤ ix (M 0 6) → sT (fun t => fb_ct (fun p => decide (M 68 p = nI t)) k) n = fb_ct (fun p => decide (¬ M 68 p = -1)) k := by
    intro k
    induction k with
    | zero =>
      intro _
      have z : ∀ m, sT (fun t => fb_ct (fun p => decide (M 68 p = nI t)) 0) m = 0 := fun m => by
        induction m with
        | zero => rfl
        | succ m ih =>
          show sT _ m + 0 = 0
          rw [ih]
      exact z n
    | succ k ih =>
      intro hk
      rw [fb_ct_succ, ← ih (by omega)]
      have e1 : sT (fun t => fb_ct (fun p => decide (M 68 p = nI t)) (k + 1)) n = sT (fun t => fb_ct (fun p => decide (M 68 p = nI t)) k + (if (fun t => decide (M 68 k = nI t)) t = true then 1 else 0)) n := sT_cg n (fun t _ => fb_ct_succ _ k)
      rw [e1, sT_add, sT_ct]
      congr 1
      by_cases c : M 68 k = -1
      · rw [if_neg (by simp [c])]
        exact fb_ct_zero.mpr (fun t ht => decide_eq_false (fun e => nI_nm t (by omega) (e.symm.trans c)))
      · rw [if_pos (by simp [c])]
        obtain ⟨t, ht, e, _⟩ := hO.2.1 k (by omega) c
        exact ct_one n ht (decide_eq_true e) (fun q hq e2 => nI_inj (by omega) (by omega) ((of_decide_eq_true e2).symm.trans e))
  rw [← key _ (Nat.le_refl _), ← sT_ct]
  refine sT_cg n (fun t ht => ?_)
  rw [k_on h ht]
  by_cases c : M 41 t = 2
  · rw [if_pos c, if_pos (decide_eq_true c)]
  · rw [if_neg c, if_neg (fun e => c (of_decide_eq_true e))]
theorem k_lent (h : zJT n K B A M) {t : Nat} (ht : t < n) : ¬ mF_key M (nI t) < mF_lent M (nI t) := by
  have hn := zJT_n h
  have hm := mF_lent_mn (zI_W h.1.1) (t := t) (by rw [zI_ix h.1.1]; exact ht)
  rw [i_lt]
  have : (mF_lent M (nI t)).toInt ≤ (mF_key M (nI t)).toInt := hm.2 t (by omega) (qre_r _ _)
  omega
theorem k_lent2 (h : zJT n K B A M) {t u q : Nat} (ht : t < n) (hu : u < n) (hq : q < 6) (hh : M 101 q = nI u) (h4 : M 41 t = 4) (h49 : M 49 t = nI q) : ¬ mF_lent M (nI t) < mF_lent M (nI u) := by
  have hn := zJT_n h
  have hx := zI_ix h.1.1
  have hm := mF_lent_mn (zI_W h.1.1) (t := t) (by omega)
  have hm2 := mF_lent_mn (zI_W h.1.1) (t := u) (by omega)
  obtain ⟨k, hk, hr, e⟩ := hm.1
  have he : qeM M t = some u := by
    unfold qeM
    rw [h49, zix (by omega), hh, zix (by omega), if_pos ⟨by omega, h4, nI_nm u (by omega)⟩]
  have this : (mF_lent M (nI u)).toInt ≤ (mF_key M (nI k)).toInt := hm2.2 k hk (qre_t hr he)
  have e9 : mF_key M (nI k) = mF_lent M (nI t) := e
  rw [e9] at this
  rw [i_lt]
  omega
theorem k_lev (h : zJT n K B A M) (t : Nat) : ¬ M 46 t < 0 ∧ ¬ 3 < M 46 t := by
  have h1 : 0 ≤ (M 46 t).toInt := (zI_W h.1.1 46 t).1
  have h2 : (M 46 t).toInt ≤ 3 := (zI_W h.1.1 46 t).2
  rw [i_lt, i_lt, show (0 : Int32).toInt = 0 from rfl, show (3 : Int32).toInt = 3 from rfl]
  omega
theorem k_st (h : zJT n K B A M) (t : Nat) : 0 ≤ (M 41 t).toInt ∧ (M 41 t).toInt ≤ 6 := (show 0 ≤ (M 41 t).toInt ∧ (M 41 t).toInt ≤ 6 from zI_W h.1.1 41 t)
theorem k_stand (h : zJT n K B A M) {t : Nat} (ht : t < n) (h0 : 0 < M 41 t) (h6 : M 41 t < 6) : ¬ M 45 t < 0 := by
  have g := h.2.1.2.2.2.1.2 t ht (fun e => by rw [e] at h0; exact absurd h0 (by decide)) (fun e => by rw [e] at h6; exact absurd h6 (by decide))
  rw [i_lt, show (0 : Int32).toInt = 0 from rfl]
  omega
theorem k_cnt (h : zJT n K B A M) {t : Nat} (ht : t < n) : (0 ≤ zc M t 0 ∧ 0 ≤ zc M t 1 ∧ 0 ≤ zc M t 2) ∧ (0 < zc M t 0 ↔ 0 ≤ zc M t 3) ∧ (0 ≤ zc M t 4 ↔ M 41 t = 6) ∧ zc M t 0 + zc M t 1 + zc M t 2 ≤ (M 0 1).toInt := by
  obtain ⟨a, b, c, e⟩ := h.2.1.1 t ht
  exact ⟨a, b, c, e.elim id (fun x => absurd x.2.1 (by decide))⟩
theorem k_sum (h : zJT n K B A M) (hK : K ≤ 190000) {t : Nat} (ht : t < n) : ¬ M 0 1 < M (52 + t) 0 + M (52 + t) 1 + M (52 + t) 2 := by
  obtain ⟨⟨a0, a1, a2⟩, _, _, e⟩ := k_cnt h ht
  have hc := zI_K h.1.1
  have z0 : zc M t 0 = (M (52 + t) 0).toInt := rfl
  have z1 : zc M t 1 = (M (52 + t) 1).toInt := rfl
  have z2 : zc M t 2 = (M (52 + t) 2).toInt := rfl
  have e1 : (M (52 + t) 0 + M (52 + t) 1).toInt = (M (52 + t) 0).toInt + (M (52 + t) 1).toInt := fb_addI (by omega) (by omega)
  have e2 : (M (52 + t) 0 + M (52 + t) 1 + M (52 + t) 2).toInt = (M (52 + t) 0).toInt + (M (52 + t) 1).toInt + (M (52 + t) 2).toInt := by
    rw [fb_addI (by rw [e1]; omega) (by rw [e1]; omega), e1]
  rw [i_lt, e2]
  omega
theorem k_new (h : zJT n K B A M) {t : Nat} (ht : t < n) (h0 : M 41 t = 0) : M (52 + t) 0 + M (52 + t) 1 = 0 := by
  have hn := zJT_n h
  have := ((zI_T h.1.1 ht).2.2.2.2.2.2.2 h0).2.2.2.2.1
  rw [(this 0 (by decide)).2, (this 1 (by decide)).2]
  rfl
theorem k_first (h : zJT n K B A M) {t : Nat} (ht : t < n) : (0 < M (52 + t) 0 ↔ ¬ M (52 + t) 3 < 0) ∧ (¬ M (52 + t) 4 < 0 ↔ M 41 t = 6) := by
  obtain ⟨_, b, c, _⟩ := k_cnt h ht
  rw [i_lt, i_lt, i_lt, show (0 : Int32).toInt = 0 from rfl]
  exact ⟨b.trans (by show 0 ≤ (M (52 + t) 3).toInt ↔ _; omega), (show ¬ (M (52 + t) 4).toInt < 0 ↔ 0 ≤ zc M t 4 by show _ ↔ 0 ≤ (M (52 + t) 4).toInt; omega).trans c⟩
theorem bit1 (x : Int32) {t : Nat} (ht : t < 32) : (x >>> (nI t &&& 31)) &&& 1 = nI (if bt x t = true then 1 else 0) := by
  by_cases c : bt x t = true
  · rw [if_pos c]
    refine b_ext fun i hi => ?_
    rw [b_and, b_sshr t ht x hi, show nI 1 = 1 from rfl, q_b1 i hi]
    by_cases e : i = 0
    · subst e
      rw [if_pos (by omega), Nat.add_zero, c]
      rfl
    · rw [decide_eq_false e, Bool.and_false]
  · rw [if_neg c, show nI 0 = 0 from rfl]
    exact (q_tst x ht).mpr (bt_ff c)
theorem k_wait (h : zJT n K B A M) (s : Int32) {t q : Nat} (ht : t < n) : ((mF_those M s (nI q)) >>> (nI t &&& 31)) &&& 1 = nI (if decide (M 41 t = s ∧ M 49 t = nI q) = true then 1 else 0) := by
  have hn := zJT_n h
  rw [bit1 _ (by omega)]
  congr 1
  have e := those_b (its := s) (q := q) hn (zI_ix h.1.1) (i := t) (by omega)
  by_cases c : M 41 t = s ∧ M 49 t = nI q
  · rw [if_pos (e.mpr ⟨ht, c.1, c.2⟩), if_pos (decide_eq_true c)]
  · rw [if_neg (fun g => c (e.mp g).2), if_neg (fun g => c (of_decide_eq_true g))]
theorem at_step (a b : Nat) (x y : Bool) : nI (a + 8 * b) + (nI (if x = true then 1 else 0) + 8 * nI (if y = true then 1 else 0)) = nI ((a + if x = true then 1 else 0) + 8 * (b + if y = true then 1 else 0)) := by
  have e8 : (8 : Int32) * nI 1 = nI 8 := by decide
  have e0 : (8 : Int32) * nI 0 = nI 0 := by decide
  cases x <;> cases y
  · simp only [Bool.false_eq_true, if_false, e0, nI_pl, Nat.add_zero]
  · simp only [Bool.false_eq_true, if_false, if_true, e8, nI_pl, Nat.add_zero, Nat.zero_add]
    congr 1
  · simp only [Bool.false_eq_true, if_false, if_true, e0, nI_pl, Nat.add_zero]
    congr 1
    omega
  · simp only [if_true, e8, nI_pl]
    congr 1
    omega
/-- places -/
theorem k_free (h : zJT n K B A M) {q : Nat} (hq : q < 6) (hm : M 101 q = -1) : mF_those M 4 (nI q) = 0 := by
  have hn := zJT_n h
  refine (those_0 hn (zI_ix h.1.1)).mpr (fun t ht h4 h49 => zI_B h.1.1 t ht h4 ?_)
  rw [h49, zix (by omega)]
  exact hm
theorem k_held (h : zJT n K B A M) {q t : Nat} (hq : q < 6) (ht : t < n) (h4 : M 41 t = 4) (h49 : M 49 t = nI q) : ¬ M 101 q = -1 := by
  have := zI_B h.1.1 t ht h4
  rw [h49, zix (by omega)] at this
  exact this
theorem k_num (h : zJT n K B A M) {q : Nat} (hq : q < 6) : (0 < M 102 q → mF_those M 5 (nI q) = 0) ∧ ¬ 99 < M 102 q := by
  have hn := zJT_n h
  refine ⟨fun h0 => (those_0 hn (zI_ix h.1.1)).mpr (fun t ht h5 h49 => ?_), ?_⟩
  · have e := h.2.1.2.2.1 q t hq ht h5 h49
    rw [e] at h0
    exact absurd h0 (by decide)
  · have h2 : (M 102 q).toInt ≤ 99 := (zI_W h.1.1 102 q).2
    rw [i_lt, show (99 : Int32).toInt = 99 from rfl]
    omega
theorem k_ran (h : zJT n K B A M) {p : Nat} (hp : p < 3) : (M 0 1 = 0 → mF_ran M (nI p) 1 = -2) ∧ (¬ M 0 1 = 0 → ¬ mF_ran M (nI p) 1 < -1 ∧ mF_ran M (nI p) 1 < nI n) := by
  have hn := zJT_n h
  have hc := zI_K h.1.1
  unfold mF_ran
  refine ⟨fun e => by rw [e, if_pos (by decide)], fun e => ?_⟩
  have hne : (M 0 1).toInt ≠ 0 := fun e9 => e (Int32.toInt_inj.mp e9)
  rw [if_neg (by rw [i_lt, show (1 : Int32).toInt = 1 from rfl]; omega), zix (by omega), show ix (1 - 1 : Int32) = 0 from rfl]
  rcases h.2.1.2.2.2.2.2 with g | g
  · exact absurd g e
  · rcases g p hp with g | ⟨t, ht, g⟩
    · rw [g]
      refine ⟨by decide, ?_⟩
      rw [i_lt, nI_rng (by omega)]
      show (-1 : Int) < n
      omega
    · rw [g, i_lt, i_lt, nI_rng (by omega), nI_rng (by omega)]
      exact ⟨by show ¬ (t : Int) < -1; omega, by omega⟩
def mS (M : zSg) : Int32 := if mF_stuck M = 0 then (match mF_tick 17 M with | some M1 => (if mF_stuck M1 = 0 then -1 else nI 1) | none => -1) else nI 0
theorem t_stuckIn {B2 : zSg} (h : zJT n K B A M) (hU : zU B2) (hK : K + 4 ≤ 190000) : ∃ B3, cP_stuckIn A B2 1 = .inl (B3, mS M) ∧ zU B3 := by
  have hq := zQR_copy h.1 hU
  have ht : cR_tried 1 = none := by decide
  have eC : cP_stuckIn A B2 1 = .inl (cF_stk 1 0 (cC0 A B2)) := by
    unfold cP_stuckIn
    rw [ht]
    rfl
  obtain ⟨M1, e1, g1, g2, _⟩ := zI_tick hq.1 hK hq.2 (f := 17) (by decide)
  rw [eC]
  have es := stuck_eq hq.1
  have es1 := stuck_eq g1
  unfold cF_stk mS
  rw [es, e1]
  by_cases c : mF_stuck M = 0
  · rw [if_pos c, if_pos c]
    unfold cF_stk
    rw [es1]
    exact ⟨_, rfl, zU_of g1⟩
  · rw [if_neg c, if_neg c]
    exact ⟨_, rfl, zU_of hq.1⟩
theorem k_stuck (M : zSg) : (¬ mF_stuck M = 0 → mS M = 0) ∧ (mF_stuck M = 0 → mS M = 1 ∨ mS M = -1) := by
  unfold mS
  refine ⟨fun c => by rw [if_neg c]; rfl, fun c => ?_⟩
  rw [if_pos c]
  split
  · split
    · exact Or.inr rfl
    · exact Or.inl rfl
  · exact Or.inr rfl
/-- who is done is so in no tick -/
theorem t_doneIn {B2 : zSg} {t : Nat} (h : zJT n K B A M) (hU : zU B2) (hK : K + 240 ≤ 190000) (ht : t < n) (h6 : M 41 t = 6) : ∃ B3, cP_doneIn A B2 (nI t) 1 = .inl (B3, 0) ∧ zU B3 := by
  have hn := zJT_n h
  obtain ⟨P, e1, hg⟩ := c_doneIn (f := 17) h.1 hU hK (by decide) (nI t) 1
  have hc := copy_R (zQR_0 h.1 0) hU
  have e6 : mF_copy (zup M 0 0 0) 41 t = 6 := by
    have hx : ix ((zup M 0 0 0) 0 15) ≤ 16 := by rw [zI_ix (zQR_0 h.1 0).1]; exact hn
    have e := (copy_at hx).1 6 (by decide) t (show t < 16 by omega)
    have e9 : mF_copy (zup M 0 0 0) 41 t = zup M 0 0 0 41 t := e
    rw [e9, zup_a (by decide)]
    exact h6
  unfold mP_doneIn at e1
  rw [if_pos (t_task h ht).1, if_pos (show mF_is 1 1 60 = true by decide), show ix (1 : Int32) = 0 + 1 from rfl, mF_done, zix (by omega), if_pos e6] at e1
  cases e1
  rcases hR : cP_doneIn A B2 (nI t) 1 with q | E
  · rw [hR] at hg
    obtain ⟨g1, g2, g3, g4⟩ := hg
    refine ⟨q.1, ?_, g4⟩
    have : q.2 = 0 := g1
    rw [← this]
  · rw [hR] at hg
    obtain ⟨g1, g2, _⟩ := hg
    have e : zup M 0 0 0 0 0 = eco LXA E := g2
    rw [zup_at] at e
    exfalso
    simp only [LXA, List.mem_cons, List.not_mem_nil, or_false] at g1
    rcases g1 with rfl | rfl
    · exact absurd e (by decide)
    · exact absurd e (by decide)
end KF
