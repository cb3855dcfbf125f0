/-! .. the waits, what comes ahead of the processors, and a whole tick -/
theorem cw_at {M : zSg} (hn : ix (M 0 15) ≤ 16) : ∀ f j, mT_cw M f j = if 52 ≤ f ∧ f < 52 + ix (M 0 15) ∧ j = 1 then M f 1 + (if M 41 (f - 52) = 1 then 1 else 0) else if 52 ≤ f ∧ f < 52 + ix (M 0 15) ∧ j = 2 then M f 2 + (if M 41 (f - 52) = 4 then 1 else 0) else M f j := by
  unfold mT_cw
  refine q_fold (P := fun m s => ∀ f j, s f j = if 52 ≤ f ∧ f < 52 + m ∧ j = 1 then M f 1 + (if M 41 (f - 52) = 1 then 1 else 0) else if 52 ≤ f ∧ f < 52 + m ∧ j = 2 then M f 2 + (if M 41 (f - 52) = 4 then 1 else 0) else M f j) (fun i s => mB_cw i s) (ix (M 0 15)) (fun f j => by rw [if_neg (by omega), if_neg (by omega)]) (fun k s hk hs f j => ?_)
  show mB_cw k s f j = _
  unfold mB_cw
  try dsimp only
  rw [show ix (1 : Int32) = 1 from rfl, show ix (2 : Int32) = 2 from rfl]
  have s41 : ∀ t, s 41 t = M 41 t := fun t => by rw [hs 41 t, if_neg (by omega), if_neg (by omega)]
  have s1 : s (52 + k) 1 = M (52 + k) 1 := by rw [hs, if_neg (by omega), if_neg (by omega)]
  have s2 : s (52 + k) 2 = M (52 + k) 2 := by rw [hs, if_neg (by omega), if_neg (by omega)]
  have z41 : zup s (52 + k) 1 (s (52 + k) 1 + if s 41 k = 1 then 1 else 0) 41 k = M 41 k := by rw [zup_a (by omega), s41]
  have z2 : zup s (52 + k) 1 (s (52 + k) 1 + if s 41 k = 1 then 1 else 0) (52 + k) 2 = M (52 + k) 2 := by rw [zup_b (by decide), s2]
  rw [z41, z2]
  by_cases c1 : f = 52 + k ∧ j = 2
  · rw [c1.1, c1.2, zup_at, if_neg (show ¬ (52 ≤ 52 + k ∧ 52 + k < 52 + (k + 1) ∧ 2 = 1) by omega), if_pos (show 52 ≤ 52 + k ∧ 52 + k < 52 + (k + 1) ∧ 2 = 2 by omega), Nat.add_sub_cancel_left]
  · rw [zup_o c1]
    by_cases c2 : f = 52 + k ∧ j = 1
    · rw [c2.1, c2.2, zup_at, s1, s41, if_pos (show 52 ≤ 52 + k ∧ 52 + k < 52 + (k + 1) ∧ 1 = 1 by omega), Nat.add_sub_cancel_left]
    · rw [zup_o c2, hs f j]
      by_cases c3 : 52 ≤ f ∧ f < 52 + k ∧ j = 1
      · rw [if_pos c3, if_pos (show 52 ≤ f ∧ f < 52 + (k + 1) ∧ j = 1 by omega)]
      · rw [if_neg c3]
        by_cases c4 : 52 ≤ f ∧ f < 52 + k ∧ j = 2
        · rw [if_pos c4, if_neg (show ¬ (52 ≤ f ∧ f < 52 + (k + 1) ∧ j = 1) by omega), if_pos (show 52 ≤ f ∧ f < 52 + (k + 1) ∧ j = 2 by omega)]
        · rw [if_neg c4, if_neg (show ¬ (52 ≤ f ∧ f < 52 + (k + 1) ∧ j = 1) by omega), if_neg (show ¬ (52 ≤ f ∧ f < 52 + (k + 1) ∧ j = 2) by omega)]
theorem zif1 (c : Prop) [Decidable c] (x : Int32) (h0 : 0 ≤ x.toInt) (h : x.toInt ≤ 2000000000) : (x + (if c then 1 else 0)).toInt = x.toInt + (if c then 1 else 0) := by
  by_cases q : c
  · rw [if_pos q, if_pos q]
    exact zinc1 h0 h
  · rw [if_neg q, if_neg q, Int32.add_zero]
    omega
theorem j_end {n B m K : Nat} {C M : zSg} (hI : zI n K C M) (hK : K ≤ 200000) (h : zJL n B m M) (hm : m ≤ 3) : zJ n B 0 false 0 (0, 6) (mT_end M) := by
  have hn := zI_n hI
  have hx := zI_ix hI
  have hc := zI_K hI
  obtain ⟨⟨h1, h2, h3, h4, h5, h6⟩, hq, hr⟩ := h
  unfold mT_end
  have v := cw_at (M := M) (by omega)
  rw [hx] at v
  have o : ∀ f j, ¬ (52 ≤ f ∧ f < 68) → mT_cw M f j = M f j := fun f j hf => by rw [v, if_neg (by omega), if_neg (by omega)]
  have e01 : zup (mT_cw M) 0 1 (mT_cw M 0 1 + 1) 0 1 = M 0 1 + 1 := by rw [zup_at, o 0 1 (by omega)]
  have eo : ∀ f j, ¬ (52 ≤ f ∧ f < 68) → ¬ (f = 0 ∧ j = 1) → zup (mT_cw M) 0 1 (mT_cw M 0 1 + 1) f j = M f j := fun f j hf h0 => by rw [zup_o h0, o f j hf]
  have ec : ∀ t j, zup (mT_cw M) 0 1 (mT_cw M 0 1 + 1) (52 + t) j = mT_cw M (52 + t) j := fun t j => zup_a (by omega)
  generalize zup (mT_cw M) 0 1 (mT_cw M 0 1 + 1) = M' at e01 eo ec ⊢
  have ck : (M 0 1 + 1).toInt = (M 0 1).toInt + 1 := zinc1 hc.1 (by omega)
  have cs : ∀ t j, t < n → j ≠ 1 → j ≠ 2 → zc M' t j = zc M t j := fun t j ht a b => by
    unfold zc
    rw [ec, v, if_neg (by omega), if_neg (by omega)]
  have hcs : ∀ t, t < n → zc M t 0 ≤ 200001 ∧ zc M t 1 ≤ 200001 ∧ zc M t 2 ≤ 200001 := fun t ht => by
    obtain ⟨⟨a0, a1, a2⟩, _, _, e⟩ := h1 t ht
    rcases e with e | ⟨e, _⟩ <;> omega
  have c1 : ∀ t, t < n → zc M' t 1 = zc M t 1 + (if M 41 t = 1 then 1 else 0) := fun t ht => by
    unfold zc
    rw [ec, v, if_pos ⟨by omega, by omega, rfl⟩, Nat.add_sub_cancel_left]
    exact zif1 _ _ (h1 t ht).1.2.1 (by have : zc M t 1 ≤ 200001 := (hcs t ht).2.1; have e9 : zc M t 1 = (M (52 + t) 1).toInt := rfl; omega)
  have c2 : ∀ t, t < n → zc M' t 2 = zc M t 2 + (if M 41 t = 4 then 1 else 0) := fun t ht => by
    unfold zc
    rw [ec, v, if_neg (by omega), if_pos ⟨by omega, by omega, rfl⟩, Nat.add_sub_cancel_left]
    exact zif1 _ _ (h1 t ht).1.2.2 (by have : zc M t 2 ≤ 200001 := (hcs t ht).2.2; have e9 : zc M t 2 = (M (52 + t) 2).toInt := rfl; omega)
  have e41 : ∀ t, M' 41 t = M 41 t := fun t => eo 41 t (by omega) (by omega)
  have e49 : ∀ t, M' 49 t = M 49 t := fun t => eo 49 t (by omega) (by omega)
  refine ⟨fun t ht => ?_, jl_mv h2 (fun q _ => eo 101 q (by omega) (by omega)) (fun t _ => Or.inl ⟨e41 t, e49 t⟩), je_mv h3 (fun q _ => eo 102 q (by omega) (by omega)) (fun t _ e => ⟨by rw [← e41]; exact e, e49 t⟩), js_mv h4 (eo 0 9 (by omega) (by omega)) (fun t _ => eo 45 t (by omega) (by omega)) (fun t _ a b => by rw [e41] at a b; exact ⟨a, b⟩), ?_, Or.inr (fun p hp => by rw [eo 71 p (by omega) (by omega)]; exact hr p hp)⟩
  · obtain ⟨⟨a0, a1, a2⟩, b, c, e⟩ := h1 t ht
    have hx1 : 0 ≤ (if M 41 t = 1 then (1 : Int) else 0) ∧ (if M 41 t = 1 then (1 : Int) else 0) ≤ 1 := by split <;> omega
    have hx2 : 0 ≤ (if M 41 t = 4 then (1 : Int) else 0) ∧ (if M 41 t = 4 then (1 : Int) else 0) ≤ 1 := by split <;> omega
    have hx3 : (if M 41 t = 1 then (1 : Int) else 0) + (if M 41 t = 4 then (1 : Int) else 0) ≤ 1 := by
      by_cases z : M 41 t = 1
      · rw [if_pos z, if_neg (by rw [z]; decide)]
        omega
      · rw [if_neg z]
        omega
    rw [cs t 0 ht (by decide) (by decide), cs t 3 ht (by decide) (by decide), cs t 4 ht (by decide) (by decide), c1 t ht, c2 t ht, e41, e01, ck]
    refine ⟨by omega, b, c, Or.inl ?_⟩
    rcases e with e | ⟨e, x⟩
    · omega
    · have hz : ¬ M 41 t = 1 ∧ ¬ M 41 t = 4 := by
        rcases x.2 with x | ⟨p, hp, x⟩
        · rw [x]
          exact ⟨by decide, by decide⟩
        · have := zI_on2 hI ht (p := p) (by omega) x
          rw [this]
          exact ⟨by decide, by decide⟩
      rw [if_neg hz.1, if_neg hz.2]
      omega
  · rw [zsm_cg n (fun t ht => cs t 0 ht (by decide) (by decide)), eo 0 13 (by omega) (by omega)]
    exact h5
section JTA
variable {n B m : Nat} {d : Int} {o : Bool} {w : Nat × Nat} {M : zSg}
theorem j_ta (hn : n ≤ 16) (h : zJ n B d o m w M) : zJ n B d o m w (mT_b (mT_a M)) := by
  have h1 : zIr M (mT_a M) := by
    unfold mT_a
    split
    · exact ir_fold (fun i s => zup s 2 i 0) 4 (fun k s _ hs => ir_up hs (by unfold zRl; omega)) (ir_r M)
    · exact ir_r M
  generalize mT_a M = M1 at h1 ⊢
  refine j_ir hn h ?_
  unfold mT_b
  repeat' split
  · exact ir_fold (fun i s => zup s 46 i 0) _ (fun k s _ hs => ir_up hs (by unfold zRl; omega)) h1
  all_goals exact h1
theorem j_tc (hn : n ≤ 16) (hx : ix (M 0 15) = n) (hW : zmW M) (h : zJ n B d o m w M) (hB : B + 16 ≤ 2000000000) : zJ n (B + 16) d o m w (mT_c M) := by
  have key : zJ n (B + n) d o m w (mT_c M) := by
    unfold mT_c
    rw [hx]
    refine q_fold (P := fun k s => zJ n (B + k) d o m w s) (fun i s => mB_wk i s) n h (fun k s hk hs => ?_)
    show zJ n (B + (k + 1)) d o m w (mB_wk k s)
    unfold mB_wk
    by_cases c : s 41 k = 3
    · rw [if_pos c]
      split
      · exact j_le hs (by omega)
      · exact j_wake (B := B + k) hn hs (by omega) hk (by rw [c]; decide)
    · rw [if_neg c]
      exact j_le hs (by omega)
  exact j_le key (by omega)
/-- between ticks, or ahead of the processors' part -/
theorem j_turns {K : Nat} {C : zSg} (hI : zI n K C M) (h : zJ n B d false 0 w M) (hB : B + 3 ≤ 2000000000) : zJ n (B + 3) d false 0 w (mF_expire M) := by
  have hn := zI_n hI
  have hP := zmW_p3 (zI_W hI)
  have key : zJ n (B + ix (M 0 6)) d false 0 w (mF_expire M) ∧ ∃ C', zI n K C' (mF_expire M) := by
    unfold mF_expire
    refine q_fold (P := fun k s => zJ n (B + k) d false 0 w s ∧ ∃ C', zI n K C' s) (fun i s => mB_expire i s) (ix (M 0 6)) ⟨h, C, hI⟩ (fun k s hk hs => ?_)
    obtain ⟨g, C', hI'⟩ := hs
    refine ⟨?_, _, zI_turn hI' (p := k) (by omega)⟩
    show zJ n (B + (k + 1)) d false 0 w (mB_expire k s)
    unfold mB_expire
    by_cases c : s 68 k = -1
    · rw [if_pos c]
      exact j_le g (by omega)
    · rw [if_neg c]
      obtain ⟨u, hu, eu, h2⟩ := zI_run hI' (p := k) (by omega) c
      rw [eu]
      generalize (if s 0 2 = 0 then s 0 3 else s 0 3 <<< (s 46 (ix (nI u)) &&& 31)) = q9
      try dsimp only
      have h1 : zJ n (B + k) d false 0 w (if s 0 2 = 1 then zup s 46 (ix (nI u)) (if s 46 (ix (nI u)) + 1 < 3 then s 46 (ix (nI u)) + 1 else 3) else s) := by
        split
        · exact j_ir hn g (ir_up (ir_r s) (by unfold zRl; omega))
        · exact g
      have e41 : ∀ t, (if s 0 2 = 1 then zup s 46 (ix (nI u)) (if s 46 (ix (nI u)) + 1 < 3 then s 46 (ix (nI u)) + 1 else 3) else s) 41 t = s 41 t := fun t => by
        split
        · exact zup_a (by decide)
        · rfl
      generalize (if s 0 2 = 1 then zup s 46 (ix (nI u)) (if s 46 (ix (nI u)) + 1 < 3 then s 46 (ix (nI u)) + 1 else 3) else s) = s1 at h1 e41 ⊢
      have h3 : zJ n (B + k) d false 0 w (zup s1 68 k (-1)) := j_mk hn h1 (zKy_up (zKy_r s1) (by omega)) (fun t _ => by rw [zup_a (by decide)]) (fun p hp => absurd hp (Nat.not_lt_zero p)) (jl_mv h1.2.1 (fun q _ => zup_a (by decide)) (fun t _ => Or.inl ⟨zup_a (by decide), zup_a (by decide)⟩)) (je_mv h1.2.2.1 (fun q _ => zup_a (by decide)) (fun t _ e => ⟨by rw [zup_a (by decide)] at e; exact e, zup_a (by decide)⟩)) (js_mv h1.2.2.2.1 (zup_a (by decide)) (fun t _ => zup_a (by decide)) (fun t _ a b => by rw [zup_a (by decide)] at a b; exact ⟨a, b⟩))
      have h4 : zJ n (B + k + 1) d false 0 w (mF_ready (zup s1 68 k (-1)) (nI u)) := j_ready hn h3 (by omega) hu (by rw [zup_a (by decide), e41, h2]; decide)
      split
      · exact j_le g (by omega)
      · split
        · exact j_le g (by omega)
        · exact h4
  exact j_le key.1 (by omega)
/-- who has a processor loses it, or gets one -/
theorem j_12 {u p : Nat} {s v : Int32} {M' : zSg} (hn : n ≤ 16) (h : zJ n B d false 0 w M) (hs : s = 1 ∨ s = 2) (h1 : M 41 u = 1 ∨ M 41 u = 2) (e41 : ∀ t, M' 41 t = if t = u then s else M 41 t) (eo : ∀ f j, zRl f j → f ≠ 41 → f ≠ 68 → M' f j = M f j) : zJ n B d false 0 w M' := by
  have s0 : ¬ s = 0 := by rcases hs with e | e <;> rw [e] <;> decide
  have s4 : ¬ s = 4 := by rcases hs with e | e <;> rw [e] <;> decide
  have s5 : ¬ s = 5 := by rcases hs with e | e <;> rw [e] <;> decide
  have s6 : ¬ s = 6 := by rcases hs with e | e <;> rw [e] <;> decide
  have u0 : ¬ M 41 u = 0 := by rcases h1 with e | e <;> rw [e] <;> decide
  have u6 : ¬ M 41 u = 6 := by rcases h1 with e | e <;> rw [e] <;> decide
  refine j_mk hn h ⟨fun j hj => eo 0 j (by unfold zRl; omega) (by decide) (by decide), fun f j hf => eo f j (by unfold zRl; omega) (by omega) (by omega)⟩ (fun t _ => ?_) (fun p hp => absurd hp (Nat.not_lt_zero p)) (jl_mv h.2.1 (fun q _ => eo 101 q (by unfold zRl; omega) (by decide) (by decide)) (fun t _ => ?_)) (je_mv h.2.2.1 (fun q _ => eo 102 q (by unfold zRl; omega) (by decide) (by decide)) (fun t _ e => ?_)) (js_mv h.2.2.2.1 (eo 0 9 (by unfold zRl; omega) (by decide) (by decide)) (fun t _ => eo 45 t (by unfold zRl; omega) (by decide) (by decide)) (fun t _ a b => ?_))
  · rw [e41]
    by_cases c : t = u
    · rw [if_pos c, c]
      exact ⟨fun e => absurd e s6, fun e => absurd e u6⟩
    · rw [if_neg c]
  · by_cases c : t = u
    · right
      rw [e41, if_pos c]
      exact ⟨s0, s6, s4⟩
    · left
      rw [e41, if_neg c]
      exact ⟨rfl, eo 49 t (by unfold zRl; omega) (by decide) (by decide)⟩
  · rw [e41] at e
    by_cases c : t = u
    · rw [if_pos c] at e
      exact absurd e s5
    · rw [if_neg c] at e
      exact ⟨e, eo 49 t (by unfold zRl; omega) (by decide) (by decide)⟩
  · rw [e41] at a b
    by_cases c : t = u
    · rw [c]
      exact ⟨u0, u6⟩
    · rw [if_neg c] at a b
      exact ⟨a, b⟩
theorem j_keep {c : Nat} {T : Nat → Int32} (hn : n ≤ 16) (hO : zOn n M) (hP : ix (M 0 6) ≤ 3) (h : zJ n B d false 0 w M) : zJ n B d false 0 w (mF_keep T c M) := by
  have key : zJ n B d false 0 w (mF_keep T c M) ∧ zOn n (mF_keep T c M) ∧ mF_keep T c M 0 6 = M 0 6 := by
    unfold mF_keep
    refine q_fold (P := fun _ s => zJ n B d false 0 w s ∧ zOn n s ∧ s 0 6 = M 0 6) (fun i s => mB_keep T c i s) (ix (M 0 6)) ⟨h, hO, rfl⟩ (fun k s hk hs => ?_)
    obtain ⟨g1, g2, g3⟩ := hs
    show zJ n B d false 0 w (mB_keep T c k s) ∧ zOn n (mB_keep T c k s) ∧ mB_keep T c k s 0 6 = M 0 6
    unfold mB_keep
    by_cases c1 : s 68 k = -1
    · rw [if_pos c1]
      exact ⟨g1, g2, g3⟩
    · rw [if_neg c1]
      obtain ⟨u, hu, eu, h2⟩ := g2.2.1 k (by omega) c1
      split
      · exact ⟨g1, g2, g3⟩
      · rw [eu, zix (show u < 2147483648 by omega)]
        have e41 : ∀ t, zup (zup s 41 u 1) 68 k (-1) 41 t = if t = u then 1 else s 41 t := fun t => by
          rw [zup_a (by decide)]
          by_cases c9 : t = u
          · rw [c9, zup_at, if_pos rfl]
          · rw [zup_b c9, if_neg c9]
        refine ⟨j_12 (u := u) (p := k) (v := -1) hn g1 (Or.inl rfl) (Or.inr h2) e41 (fun f j _ a b => by rw [zup_a b, zup_a a]), zOn_off hn g2 hu (p := k) (by omega) eu (by rw [zup_a (by decide), zup_a (by decide)]) (fun q _ => ?_) (fun t _ ht => by rw [e41, if_neg ht]) (by rw [e41, if_pos rfl]; decide), by rw [zup_a (by decide), zup_a (by decide)]; exact g3⟩
        by_cases c9 : q = k
        · rw [c9, zup_at, if_pos rfl]
        · rw [zup_b c9, if_neg c9, zup_a (by decide)]
  exact key.1
theorem j_gives {K c : Nat} {T : Nat → Int32} {C0 M0 C : zSg} (hR : zRg n K c T C0 M0 C M) (h : zJ n B d false 0 w M) : ∀ k, k ≤ c → zJ n B d false 0 w (mF_gives T k M) := by
  intro k
  induction k with
  | zero => intro _; exact h
  | succ k ih =>
    intro hk
    have g := ih (by omega)
    have hR2 := zRg_puts hR k (by omega)
    have hn := zI_n hR2.1
    obtain ⟨u, hu, eu, hs⟩ := hR2.2.2.2.2.1 k (by omega)
    have e0 : mF_gives T (k + 1) M = mB_give T k (mF_gives T k M) := by
      unfold mF_gives
      rw [List.range_succ, List.foldl_append]
      rfl
    rw [e0]
    generalize mF_gives T k M = s at g hR2 hs ⊢
    unfold mB_give
    rw [eu, zix (show u < 2147483648 by omega)]
    rcases hs with h1 | h2
    · rw [h1, if_neg (by decide)]
      obtain ⟨p, hp, hpp, em, e1, e2⟩ := give_pick hR2.1 (u := u) (free_p hR2 (by omega) hu eu (by rw [h1]; decide))
      rw [e1]
      unfold mF_give0
      rw [zix (show p < 2147483648 by omega), zix (show u < 2147483648 by omega)]
      try dsimp only
      refine j_12 (u := u) (p := p) (v := nI u) (s := 2) hn g (Or.inr rfl) (Or.inl h1) (fun t => ?_) (fun f j hr a b => ?_)
      · rw [zup_a (by decide)]
        by_cases c9 : t = u
        · rw [c9, zup_at, if_pos rfl]
        · rw [zup_b c9, if_neg c9, zup_a (by decide), zup_a (by decide)]
      · unfold zRl at hr
        rw [zup_o (by omega), zup_a a, zup_a (by omega), zup_a b]
    · rw [h2, if_pos rfl]
      exact g
theorem j_share {K : Nat} {C M3 : zSg} (h : zI n K C M) (hJ : zJ n B d false 0 w M) (e : mF_take 17 M = some M3) : zJ n B d false 0 w M3 := by
  have hn := zI_n h
  have hD : zI n K (cF_lent C) M := zI_q h (zLf_q (cF_lent_fr C))
  obtain ⟨c, T, e1, e2, e3, hc, hcP, hT, hG⟩ := takes_eq hD (fun t ht => lent_eq h ht) (f := 17) (by decide)
  have hI : zI n K (cF_takes (cF_lent C)).1 M := zI_q hD (z34_q e3)
  have hQ : zTq C M (cF_takes (cF_lent C)).1 M := zTq_of (zTq_r C M) (zKc_34 (zKc_lf (zKc_r C) (cF_lent_fr C)) e3) (zKm_r M)
  have hm : mF_take 17 M = if mF_gok T c (mF_keep T c M) = true then some (mF_gives T c (mF_keep T c M)) else none := by
    unfold mF_take
    rw [e1]
  obtain ⟨k1, k2, k3, k4, k5, k6⟩ := zI_keep hI hQ hc hT
  rw [hm] at e
  have j1 := j_keep (T := T) (c := c) hn (zI_O h) (zmW_p3 (zI_W h)) hJ
  generalize (List.range 3).foldl (fun s k => cB_drop (nI c) k s) (cF_takes (cF_lent C)).1 = C1 at k1 k2 k3
  have hR0 : zRg n K c T C M C1 (mF_keep T c M) := by
    refine ⟨k1, k2, k3, by rw [k4 0 6 rfl]; exact hcP, fun k hk => ?_, k6⟩
    obtain ⟨t, ht, et, hs⟩ := hG k hk
    exact ⟨t, ht, et, k5 t hs⟩
  have j2 := j_gives hR0 j1 c (Nat.le_refl _)
  by_cases q : mF_gok T c (mF_keep T c M) = true
  · rw [if_pos q] at e
    cases e
    exact j2
  · rw [if_neg q] at e
    cases e
end JTA
theorem j_tick {n K B c0 : Nat} {ds di da : Int32} {C M M' : zSg} (h : zI n K C M) (hK : K + 4 ≤ 190000) (tr : zTr K ds di da c0 C M) (hJ : zJ n B 0 false 0 (0, 6) M) (hB : B + 100 ≤ 2000000000) (e : mF_tick 17 M = some M') : zJ n (B + 100) 0 false 0 (0, 6) M' := by
  have hn := zI_n h
  have b1 := zI_begin h
  have b2 := zI_wakes b1
  have b3 := zI_turns b2
  have hc3 : zKc C (cF_turns (cF_wakes (cF_begin C))) := kc_turns (kc_wakes (kc_begin (zKc_r C)))
  have hm3 : zKm M (mF_expire (mT_c (mT_b (mT_a M)))) := km_expire (km_c (km_b (km_a (zKm_r M))))
  have q3 : zTq C M (cF_turns (cF_wakes (cF_begin C))) (mF_expire (mT_c (mT_b (mT_a M)))) := zTq_of (zTq_r C M) hc3 hm3
  obtain ⟨M4, t1, t2, t3⟩ := zI_share b3 q3 (f := 17) (by decide)
  have j1 := j_ta hn hJ
  have j2 := j_tc hn (zI_ix b1) (zI_W b1) j1 (by omega)
  have j3 := j_turns b2 j2 (by omega)
  have j4 := j_share b3 j3 t1
  have eM : mF_tick 17 M = mT_run 17 (mT_fill (mF_sh 29 M4)) := by
    unfold mF_tick
    rw [t1]
    rfl
  rw [eM] at e
  generalize cF_share (cF_turns (cF_wakes (cF_begin C))) = C4 at t2 t3
  obtain ⟨q1, q2, q5, q4, q6⟩ := t3
  obtain ⟨⟨r1, r2, r3, r4⟩, r5, r6⟩ := tr
  generalize hM5 : mT_fill (mF_sh 29 M4) = M5 at e
  have v5 : ∀ f i, M5 f i = if f = 71 ∧ i < 3 then -1 else if 72 ≤ f ∧ f ≤ 100 ∧ i < 3 then M4 (f - 1) i else M4 f i := by
    intro f i
    rw [← hM5, mT_fill_at, mF_sh_at 29 M4 f i (Nat.le_refl _)]
  have hz5 : zk M4 M5 := by
    rw [← hM5]
    exact zk_fill (zk_sh 29 (by decide) (zk_r (zI_W t2)))
  have h5 : zI n K C4 M5 := zI_m t2 hz5 (fun f j hq => by
    unfold zQm at hq
    rw [v5, if_neg (by omega), if_neg (by omega)])
  have m50 : ∀ j, M5 0 j = M4 0 j := fun j => by rw [v5, if_neg (by omega), if_neg (by omega)]
  have m511 : M5 0 11 = M4 0 11 := m50 11
  have m512 : M5 0 12 = M 0 12 := (m50 12).trans (q4 12 (by decide))
  have m513 : M5 0 13 = M 0 13 := (m50 13).trans (q4 13 (by decide))
  have m514 : M5 0 14 = M 0 14 := (m50 14).trans (q4 14 (by decide))
  have hl : zLp 0 (ix (M5 0 1) % 30) K ds di da C4 M5 C4 M5 := by
    refine ⟨⟨?_, ?_, ?_, ?_⟩, fun _ _ _ _ => rfl, fun q hq => absurd hq (Nat.not_lt_zero q), fun q _ hq => by rw [v5, if_pos ⟨rfl, hq⟩], fun _ _ _ _ => rfl, by rw [m514]; exact r6⟩
    · rw [m511]; exact zsub_of q1 r1
    · rw [q2 1 (by decide), m512]; exact r2
    · rw [q2 2 (by decide), m514]; exact r3
    · rw [m512, m513, m514]; exact r4
  have o5 : ∀ f j, ¬ (71 ≤ f ∧ f < 101) → M5 f j = M4 f j := fun f j hf => by rw [v5, if_neg (by omega), if_neg (by omega)]
  have j5 : zJL n (B + 16 + 3) 0 M5 := by
    obtain ⟨h1, h2, h3, h4, h6, h7⟩ := j4
    have e41 : ∀ t, M5 41 t = M4 41 t := fun t => o5 41 t (by omega)
    have e49 : ∀ t, M5 49 t = M4 49 t := fun t => o5 49 t (by omega)
    have ec : ∀ t j, t < 16 → zc M5 t j = zc M4 t j := fun t j ht => by
      unfold zc
      rw [o5 (52 + t) j (by omega)]
    have g71 : ∀ p, p < 3 → M5 71 p = -1 := fun p hp => by rw [v5, if_pos ⟨rfl, hp⟩]
    refine ⟨⟨fun t ht => ?_, jl_mv h2 (fun q _ => o5 101 q (by omega)) (fun t _ => Or.inl ⟨e41 t, e49 t⟩), je_mv h3 (fun q _ => o5 102 q (by omega)) (fun t _ e => ⟨by rw [← e41]; exact e, e49 t⟩), js_mv h4 (o5 0 9 (by omega)) (fun t _ => o5 45 t (by omega)) (fun t _ a b => by rw [e41] at a b; exact ⟨a, b⟩), ?_, Or.inr (fun p hp => Or.inl (g71 p hp))⟩, fun q _ hq => g71 q hq, fun p hp => Or.inl (g71 p hp)⟩
    · obtain ⟨a, b, c, e⟩ := h1 t ht
      rw [ec t 0 (by omega), ec t 1 (by omega), ec t 2 (by omega), ec t 3 (by omega), ec t 4 (by omega), e41, o5 0 1 (by omega)]
      refine ⟨a, b, c, Or.inl ?_⟩
      rcases e with e | ⟨_, x⟩
      · exact e
      · exact absurd x.1 (by decide)
    · rw [zsm_cg n (fun t ht => ec t 0 (by omega)), o5 0 13 (by omega)]
      exact h6
  obtain ⟨M6, l1, l2, l3, l4, l5, l50⟩ := zI_loop h5 (by omega) (f := 17) (by decide) hl
  have hP := zmW_p3 (zI_W h5)
  have j6 := j_loop (ix (M5 0 6)) 0 K (B + 16 + 3) C4 M5 M6 (by omega) hP h5 (by omega) rfl rfl hl j5 (by omega) l1
  have eR : mT_run 17 M5 = some (mT_end M6) := by
    unfold mT_run
    rw [l1]
    rfl
  rw [eR] at e
  cases e
  exact j_le (j_end l2 (by omega) j6 (by omega)) (by omega)
