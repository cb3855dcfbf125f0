/-! The relation: copies -/
/-- the places of a machine that are copied -/
def zcp (a b : Nat) : Prop := (a = 0 ∧ (b = 9 ∨ b = 10 ∨ b = 11 ∨ b = 12)) ∨ (a = 1 ∧ b < 5) ∨ (a = 2 ∧ b < 4) ∨ (a = 3 ∧ b < 3) ∨ ((a = 5 ∨ a = 6 ∨ a = 7) ∧ b < 30) ∨ (a = 9 ∧ b < 4) ∨ ((a = 10 ∨ a = 11) ∧ b < 6) ∨ (a = 12 ∧ b < 3) ∨
  ∃ t, t < 16 ∧ ((a = ztk t ∧ 3 ≤ b ∧ b < 16) ∨ (a = ztk t + 1 ∧ b < 2) ∨ ((a = ztk t + 2 ∨ a = ztk t + 3) ∧ b < 16) ∨ (a = ztk t + 4 ∧ b < 5))
theorem zcp_t {t b : Nat} (ht : t < 16) (hb : 3 ≤ b ∧ b < 16) : zcp (ztk t) b := by
  unfold zcp
  iterate 8 right
  exact ⟨t, ht, Or.inl ⟨rfl, hb⟩⟩
theorem zcp_p {t b : Nat} (ht : t < 16) (hb : b < 2) : zcp (ztk t + 1) b := by
  unfold zcp
  iterate 8 right
  exact ⟨t, ht, Or.inr (Or.inl ⟨rfl, hb⟩)⟩
theorem zcp_c {t b : Nat} (ht : t < 16) (hb : b < 16) : zcp (ztk t + 2) b := by
  unfold zcp
  iterate 8 right
  exact ⟨t, ht, Or.inr (Or.inr (Or.inl ⟨Or.inl rfl, hb⟩))⟩
theorem zcp_n {t b : Nat} (ht : t < 16) (hb : b < 16) : zcp (ztk t + 3) b := by
  unfold zcp
  iterate 8 right
  exact ⟨t, ht, Or.inr (Or.inr (Or.inl ⟨Or.inr rfl, hb⟩))⟩
theorem zcp_y {t b : Nat} (ht : t < 16) (hb : b < 5) : zcp (ztk t + 4) b := by
  unfold zcp
  iterate 8 right
  exact ⟨t, ht, Or.inr (Or.inr (Or.inr ⟨rfl, hb⟩))⟩
theorem zcp_dm {n f j : Nat} (hn : n ≤ 16) (h : zdm n f j) : zcp (zph f j).1 (zph f j).2 := by
  rcases h with ⟨rfl, h⟩ | ⟨h, hj⟩ | ⟨h, hj⟩ | ⟨h, hj⟩ | ⟨h1, h2, hj⟩ | ⟨h1, h2, hj⟩ | ⟨h1, h2, hj⟩ | ⟨rfl, hj⟩ | ⟨h, hj⟩
  · rcases h with rfl | rfl | rfl | rfl | rfl | rfl | rfl | rfl
    · exact (show zcp 0 9 by unfold zcp; omega)
    · exact (show zcp 1 1 by unfold zcp; omega)
    · exact (show zcp 1 2 by unfold zcp; omega)
    · exact (show zcp 1 3 by unfold zcp; omega)
    · exact (show zcp 1 4 by unfold zcp; omega)
    · exact (show zcp 1 0 by unfold zcp; omega)
    · exact (show zcp 0 11 by unfold zcp; omega)
    · exact (show zcp 0 10 by unfold zcp; omega)
  · rcases h with rfl | rfl
    · exact (show zcp 2 j by unfold zcp; omega)
    · exact (show zcp 9 j by unfold zcp; omega)
  · rcases h with rfl | rfl | rfl | rfl | rfl | rfl | rfl | rfl
    · exact zcp_t (b := 3) hj (by omega)
    · exact zcp_t (b := 4) hj (by omega)
    · exact zcp_p (b := 1) hj (by omega)
    · exact zcp_t (b := 5) hj (by omega)
    · exact zcp_t (b := 8) hj (by omega)
    · exact zcp_t (b := 7) hj (by omega)
    · exact zcp_t (b := 10) hj (by omega)
    · exact zcp_t (b := 11) hj (by omega)
  · rcases h with rfl | rfl
    · exact zcp_p (t := j) (b := 0) (by omega) (by omega)
    · exact zcp_t (t := j) (b := 9) (by omega) (by omega)
  · obtain ⟨t, rfl⟩ : ∃ t, f = 8 + t := ⟨f - 8, by omega⟩
    rw [zph_8 j (by omega)]
    exact zcp_c (by omega) hj
  · obtain ⟨t, rfl⟩ : ∃ t, f = 25 + t := ⟨f - 25, by omega⟩
    rw [zph_25 j (by omega)]
    exact zcp_n (by omega) hj
  · obtain ⟨t, rfl⟩ : ∃ t, f = 52 + t := ⟨f - 52, by omega⟩
    rw [zph_52 j (by omega)]
    exact zcp_y (by omega) hj
  · exact (show zcp 12 j by unfold zcp; omega)
  · rcases h with rfl | rfl
    · exact (show zcp 10 j by unfold zcp; omega)
    · exact (show zcp 11 j by unfold zcp; omega)
theorem mF_rc_at (M s : zSg) (f n x j : Nat) : mF_rc M f n s x j = if x = f ∧ j < n then M f j else s x j := by
  unfold mF_rc zrow
  by_cases c : x = f
  · subst c
    rw [if_pos rfl]
    by_cases d : j < n
    · rw [if_pos d, if_pos ⟨rfl, d⟩]
    · rw [if_neg d, if_neg (fun e => d e.2)]
  · rw [if_neg c, if_neg (fun e => c e.1)]
theorem crow_in {M : zSg} {i j : Nat} (hi : i < 20) (hj : j < mCN i) : mF_crow M (mCP i) j = M (mCP i) j := by
  have key : ∀ i, i < 20 → ∀ j, j < mCN i → mF_crow M (mCP i) j = M (mCP i) j := by
    unfold mF_crow
    refine q_fold (P := fun m s => ∀ i, i < m → ∀ j, j < mCN i → s (mCP i) j = M (mCP i) j) (fun i s => mF_rc M (mCP i) (mCN i) s) 20 (fun i hi => absurd hi (Nat.not_lt_zero i)) (fun k s hk hs i hi j hj => ?_)
    rw [mF_rc_at]
    by_cases c : mCP i = mCP k ∧ j < mCN k
    · rw [if_pos c, c.1]
    · rw [if_neg c]
      by_cases e : i = k
      · exact absurd ⟨by rw [e], by rw [← e]; exact hj⟩ c
      · exact hs i (by omega) j hj
  exact key i hi j hj
theorem crow_out {M : zSg} {f j : Nat} (hf : ∀ i, i < 20 → f ≠ mCP i) : mF_crow M f j = mF_cset M f j := by
  unfold mF_crow
  refine q_fold (P := fun _ s => s f j = mF_cset M f j) (fun i s => mF_rc M (mCP i) (mCN i) s) 20 rfl (fun k s hk hs => ?_)
  show mF_rc M (mCP k) (mCN k) s f j = _
  rw [mF_rc_at, if_neg (fun e => hf k hk e.1)]
  exact hs
theorem copy_out {M : zSg} {f j : Nat} (hn : ix (M 0 15) ≤ 16) (hf : f < 8 ∨ (41 ≤ f ∧ f < 52) ∨ 68 ≤ f) : mF_copy M f j = mF_crow M f j := by
  unfold mF_copy
  refine q_fold (P := fun _ s => s f j = mF_crow M f j) (fun i s => mB_ct M i s) (ix (M 0 15)) rfl (fun k s hk hs => ?_)
  show mF_rc M (52 + k) 5 (mF_rc M (25 + k) 16 (mF_rc M (8 + k) 16 s)) f j = _
  rw [mF_rc_at, if_neg (by omega), mF_rc_at, if_neg (by omega), mF_rc_at, if_neg (by omega)]
  exact hs
theorem copy_row {M : zSg} {t : Nat} (hn : ix (M 0 15) ≤ 16) (ht : t < 16) : (∀ j, j < 16 → mF_copy M (8 + t) j = if t < ix (M 0 15) then M (8 + t) j else mF_crow M (8 + t) j) ∧ (∀ j, j < 16 → mF_copy M (25 + t) j = if t < ix (M 0 15) then M (25 + t) j else mF_crow M (25 + t) j) ∧ (∀ j, j < 5 → mF_copy M (52 + t) j = if t < ix (M 0 15) then M (52 + t) j else mF_crow M (52 + t) j) := by
  unfold mF_copy
  refine q_fold (P := fun m s => (∀ j, j < 16 → s (8 + t) j = if t < m then M (8 + t) j else mF_crow M (8 + t) j) ∧ (∀ j, j < 16 → s (25 + t) j = if t < m then M (25 + t) j else mF_crow M (25 + t) j) ∧ (∀ j, j < 5 → s (52 + t) j = if t < m then M (52 + t) j else mF_crow M (52 + t) j)) (fun i s => mB_ct M i s) (ix (M 0 15)) ⟨fun j _ => by rw [if_neg (Nat.not_lt_zero t)], fun j _ => by rw [if_neg (Nat.not_lt_zero t)], fun j _ => by rw [if_neg (Nat.not_lt_zero t)]⟩ (fun k s hk hs => ?_)
  obtain ⟨h1, h2, h3⟩ := hs
  have cl : ∀ (x y : Int32), (if t < k then x else y) = x ∨ t ≥ k := fun x y => by
    by_cases c : t < k
    · exact Or.inl (if_pos c)
    · exact Or.inr (by omega)
  refine ⟨fun j hj => ?_, fun j hj => ?_, fun j hj => ?_⟩
  · show mF_rc M (52 + k) 5 (mF_rc M (25 + k) 16 (mF_rc M (8 + k) 16 s)) (8 + t) j = _
    rw [mF_rc_at, if_neg (by omega), mF_rc_at, if_neg (by omega), mF_rc_at]
    by_cases c : t = k
    · rw [if_pos ⟨by omega, hj⟩, if_pos (by omega), c]
    · rw [if_neg (by omega), h1 j hj]
      by_cases d : t < k
      · rw [if_pos d, if_pos (by omega)]
      · rw [if_neg d, if_neg (by omega)]
  · show mF_rc M (52 + k) 5 (mF_rc M (25 + k) 16 (mF_rc M (8 + k) 16 s)) (25 + t) j = _
    rw [mF_rc_at, if_neg (by omega), mF_rc_at]
    by_cases c : t = k
    · rw [if_pos ⟨by omega, hj⟩, if_pos (by omega), c]
    · rw [if_neg (by omega), mF_rc_at, if_neg (by omega), h2 j hj]
      by_cases d : t < k
      · rw [if_pos d, if_pos (by omega)]
      · rw [if_neg d, if_neg (by omega)]
  · show mF_rc M (52 + k) 5 (mF_rc M (25 + k) 16 (mF_rc M (8 + k) 16 s)) (52 + t) j = _
    rw [mF_rc_at]
    by_cases c : t = k
    · rw [if_pos ⟨by omega, hj⟩, if_pos (by omega), c]
    · rw [if_neg (by omega), mF_rc_at, if_neg (by omega), mF_rc_at, if_neg (by omega), h3 j hj]
      by_cases d : t < k
      · rw [if_pos d, if_pos (by omega)]
      · rw [if_neg d, if_neg (by omega)]
theorem mCP_lo : ∀ i, i < 20 → (mCP i < 8 ∨ (41 ≤ mCP i ∧ mCP i < 52) ∨ 68 ≤ mCP i) ∧ 1 ≤ mCP i := by decide
/-- what a copy holds -/
theorem copy_at {M : zSg} (hn : ix (M 0 15) ≤ 16) : (∀ i, i < 20 → ∀ j, j < mCN i → mF_copy M (mCP i) j = M (mCP i) j) ∧ (∀ j, mF_copy M 0 j = mF_cset M 0 j) ∧ ∀ t, t < 16 → (∀ j, j < 16 → mF_copy M (8 + t) j = if t < ix (M 0 15) then M (8 + t) j else 0) ∧ (∀ j, j < 16 → mF_copy M (25 + t) j = if t < ix (M 0 15) then M (25 + t) j else 0) ∧ (∀ j, j < 5 → mF_copy M (52 + t) j = if t < ix (M 0 15) then M (52 + t) j else 0) := by
  refine ⟨fun i hi j hj => ?_, fun j => ?_, fun t ht => ?_⟩
  · rw [copy_out hn (mCP_lo i hi).1]
    exact crow_in hi hj
  · rw [copy_out hn (by omega)]
    exact crow_out (fun i hi => by have := (mCP_lo i hi).2; omega)
  · obtain ⟨a, b, c⟩ := copy_row hn ht
    have o : ∀ f j, (8 ≤ f ∧ f < 24) ∨ (25 ≤ f ∧ f < 41) ∨ (52 ≤ f ∧ f < 68) → mF_crow M f j = 0 := fun f j hf => by
      rw [crow_out (fun i hi => by have := (mCP_lo i hi).1; omega)]
      unfold mF_cset
      rw [zup_a (by omega), zup_a (by omega), zup_a (by omega), zup_a (by omega), zup_a (by omega), zup_a (by omega), zup_a (by omega), zup_a (by omega), zup_a (by omega)]
      unfold mF_new
      split <;> first | omega | rfl
    refine ⟨fun j hj => ?_, fun j hj => ?_, fun j hj => ?_⟩
    · rw [a j hj, o (8 + t) j (by omega)]
    · rw [b j hj, o (25 + t) j (by omega)]
    · rw [c j hj, o (52 + t) j (by omega)]
theorem cset_at (M : zSg) : mF_cset M 0 1 = M 0 1 ∧ mF_cset M 0 2 = M 0 2 ∧ mF_cset M 0 3 = M 0 3 ∧ mF_cset M 0 4 = M 0 4 ∧ mF_cset M 0 5 = M 0 5 ∧ mF_cset M 0 6 = M 0 6 ∧ mF_cset M 0 9 = M 0 9 ∧ mF_cset M 0 10 = M 0 10 ∧ mF_cset M 0 15 = M 0 15 ∧ mF_cset M 0 11 = 0 ∧ mF_cset M 0 12 = 0 ∧ mF_cset M 0 13 = 0 ∧ mF_cset M 0 14 = 0 := ⟨rfl, rfl, rfl, rfl, rfl, rfl, rfl, rfl, rfl, rfl, rfl, rfl, rfl⟩
theorem zI_copy {n K : Nat} {A A2 M : zSg} (h : zI n K A M) (hc : ∀ a b, zcp a b → A2 a b = A a b) (hU : ∀ t, t < 16 → A2 (ztk t) 0 = nI t) : zI n K A2 (mF_copy M) := by
  have hn := zI_n h
  have hx := zI_ix h
  have hW := zI_W h
  obtain ⟨c1, c0, c2⟩ := copy_at (M := M) (by omega)
  obtain ⟨s1, s2, s3, s4, s5, s6, s9, s10, s15, s11, s12, s13, s14⟩ := cset_at M
  have k0 : ∀ i, i < 20 → ∀ j, j < 16 → j < mCN i → mF_copy M (mCP i) j = M (mCP i) j := fun i hi j _ hj => c1 i hi j hj
  have m1 : ∀ j, j < 4 → mF_copy M 1 j = M 1 j := fun j hj => c1 0 (by decide) j hj
  have m2 : ∀ j, j < 4 → mF_copy M 2 j = M 2 j := fun j hj => c1 1 (by decide) j hj
  have m3 : ∀ j, j < 16 → mF_copy M 3 j = M 3 j := fun j hj => c1 2 (by decide) j hj
  have m4 : ∀ j, j < 16 → mF_copy M 4 j = M 4 j := fun j hj => c1 3 (by decide) j hj
  have m5 : ∀ j, j < 16 → mF_copy M 5 j = M 5 j := fun j hj => c1 4 (by decide) j hj
  have m6 : ∀ j, j < 16 → mF_copy M 6 j = M 6 j := fun j hj => c1 5 (by decide) j hj
  have m41 : ∀ j, j < 16 → mF_copy M 41 j = M 41 j := fun j hj => c1 6 (by decide) j hj
  have m42 : ∀ j, j < 16 → mF_copy M 42 j = M 42 j := fun j hj => c1 7 (by decide) j hj
  have m43 : ∀ j, j < 16 → mF_copy M 43 j = M 43 j := fun j hj => c1 8 (by decide) j hj
  have m44 : ∀ j, j < 16 → mF_copy M 44 j = M 44 j := fun j hj => c1 9 (by decide) j hj
  have m45 : ∀ j, j < 16 → mF_copy M 45 j = M 45 j := fun j hj => c1 10 (by decide) j hj
  have m46 : ∀ j, j < 16 → mF_copy M 46 j = M 46 j := fun j hj => c1 11 (by decide) j hj
  have m47 : ∀ j, j < 16 → mF_copy M 47 j = M 47 j := fun j hj => c1 12 (by decide) j hj
  have m48 : ∀ j, j < 16 → mF_copy M 48 j = M 48 j := fun j hj => c1 13 (by decide) j hj
  have m49 : ∀ j, j < 16 → mF_copy M 49 j = M 49 j := fun j hj => c1 14 (by decide) j hj
  have m50 : ∀ j, j < 16 → mF_copy M 50 j = M 50 j := fun j hj => c1 15 (by decide) j hj
  have m68 : ∀ j, j < 3 → mF_copy M 68 j = M 68 j := fun j hj => c1 16 (by decide) j hj
  have m69 : ∀ j, j < 3 → mF_copy M 69 j = M 69 j := fun j hj => c1 17 (by decide) j hj
  have m101 : ∀ j, j < 6 → mF_copy M 101 j = M 101 j := fun j hj => c1 18 (by decide) j hj
  have m102 : ∀ j, j < 6 → mF_copy M 102 j = M 102 j := fun j hj => c1 19 (by decide) j hj
  have cT : ∀ t b, t < 16 → 3 ≤ b → b < 16 → A2 (ztk t) b = A (ztk t) b := fun t b ht h1 h2 => hc _ _ (zcp_t ht ⟨h1, h2⟩)
  have e15 : mF_copy M 0 15 = M 0 15 := (c0 15).trans s15
  have e06 : mF_copy M 0 6 = M 0 6 := (c0 6).trans s6
  have e01 : mF_copy M 0 1 = M 0 1 := (c0 1).trans s1
  have e010 : mF_copy M 0 10 = M 0 10 := (c0 10).trans s10
  have c12 : A2 0 12 = A 0 12 := hc _ _ (by unfold zcp; omega)
  obtain ⟨h1, h2, h3, h4, h5, h6, ⟨a1, a2, a3, a4⟩, h8, h9, h10, h11, h12⟩ := h
  have r8 : ∀ t, t < 16 → ∀ j, j < 16 → mF_copy M (8 + t) j = M (8 + t) j := fun t ht j hj => by
    rw [(c2 t ht).1 j hj]
    by_cases c : t < ix (M 0 15)
    · rw [if_pos c]
    · rw [if_neg c]
      exact ((h5.1 t (by omega) ht).2.2 j hj).1.symm
  have r25 : ∀ t, t < 16 → ∀ j, j < 16 → mF_copy M (25 + t) j = M (25 + t) j := fun t ht j hj => by
    rw [(c2 t ht).2.1 j hj]
    by_cases c : t < ix (M 0 15)
    · rw [if_pos c]
    · rw [if_neg c]
      exact ((h5.1 t (by omega) ht).2.2 j hj).2.symm
  have r52 : ∀ t, t < n → ∀ j, j < 5 → mF_copy M (52 + t) j = M (52 + t) j := fun t ht j hj => by
    rw [(c2 t (by omega)).2.2 j hj, if_pos (by omega)]
  refine ⟨by rw [e15]; exact h1, fun f j hd => ?_, zmW_copy hW, hU, ⟨fun t ht h16 => ?_, fun t ht => ?_⟩, fun t ht => ?_, ⟨by rw [c12]; exact a1, by rw [e010]; exact a2, fun t ht hs => ?_, fun t v ht hv hs hs2 => ?_⟩, ?_, fun p t hp ht e => ?_, fun t ht e => ?_, fun t ht => ?_, by rw [e01]; exact h12⟩
  · have e9 : mF_copy M f j = M f j := by
      rcases hd with ⟨rfl, h⟩ | ⟨h, hj⟩ | ⟨h, hj⟩ | ⟨h, hj⟩ | ⟨h1, h2, hj⟩ | ⟨h1, h2, hj⟩ | ⟨h1, h2, hj⟩ | ⟨rfl, hj⟩ | ⟨h, hj⟩
      · rcases h with rfl | rfl | rfl | rfl | rfl | rfl | rfl | rfl
        · exact (c0 1).trans s1
        · exact (c0 2).trans s2
        · exact (c0 3).trans s3
        · exact (c0 4).trans s4
        · exact (c0 5).trans s5
        · exact (c0 6).trans s6
        · exact (c0 9).trans s9
        · exact (c0 15).trans s15
      · rcases h with rfl | rfl
        · exact m1 j hj
        · exact m2 j hj
      · rcases h with rfl | rfl | rfl | rfl | rfl | rfl | rfl | rfl
        · exact m3 j hj
        · exact m4 j hj
        · exact m6 j hj
        · exact m41 j hj
        · exact m43 j hj
        · exact m44 j hj
        · exact m46 j hj
        · exact m47 j hj
      · rcases h with rfl | rfl
        · exact m5 j (by omega)
        · exact m45 j (by omega)
      · obtain ⟨t, rfl⟩ : ∃ t, f = 8 + t := ⟨f - 8, by omega⟩
        exact r8 t (by omega) j hj
      · obtain ⟨t, rfl⟩ : ∃ t, f = 25 + t := ⟨f - 25, by omega⟩
        exact r25 t (by omega) j hj
      · obtain ⟨t, rfl⟩ : ∃ t, f = 52 + t := ⟨f - 52, by omega⟩
        exact r52 t (by omega) j hj
      · exact m68 j hj
      · rcases h with rfl | rfl
        · exact m101 j hj
        · exact m102 j hj
    rw [e9, hc _ _ (zcp_dm hn hd)]
    exact h2 f j hd
  · obtain ⟨x, y, z⟩ := h5.1 t ht h16
    exact ⟨(m41 t h16).trans x, (m6 t h16).trans y, fun j hj => ⟨(r8 t h16 j hj).trans (z j hj).1, (r25 t h16 j hj).trans (z j hj).2⟩⟩
  · rw [m5 t (by omega)]
    exact h5.2 t ht
  · obtain ⟨b1, b2, b3, b4, b5, b6, b7, b8⟩ := h6 t ht
    have h616 : (M 6 t).toInt ≤ 16 := (hW 6 t).2
    have h60 : 0 ≤ (M 6 t).toInt := (hW 6 t).1
    have hx6 := ztoInt h60
    unfold zTk
    rw [m41 t ht, m42 t ht, m43 t ht, m46 t ht, m48 t ht, m49 t ht, m6 t ht, m5 t ht, cT t 6 ht (by decide) (by decide), cT t 13 ht (by decide) (by decide), cT t 9 ht (by decide) (by decide)]
    refine ⟨b1, b2, b3, fun hs => ?_, fun g1 g2 => ?_, b6, fun s hs => ?_, fun h0 => ?_⟩
    · obtain ⟨d1, d2⟩ := b4 hs
      have d3 := b5 (by rcases hs with e | e <;> rw [e] <;> decide) (by rcases hs with e | e <;> rw [e] <;> decide)
      have d4 := ztoInt d3.1.1
      exact ⟨d1, by rw [r8 t ht _ (by omega)]; exact d2⟩
    · obtain ⟨d1, d2⟩ := b5 g1 g2
      have d3 := zsub1 (x := M 6 t) (by omega)
      have d4 := ztoInt (x := M 6 t - 1) (by omega)
      exact ⟨d1, by rw [r8 t ht _ (by omega)]; exact d2⟩
    · rw [r8 t ht s (by omega), r25 t ht s (by omega)]
      exact b7 s hs
    · obtain ⟨e1, e2, e3, e4, e5, e6, e7⟩ := b8 h0
      have y4 : ∀ j, j < 5 → A2 (ztk t + 4) j = A (ztk t + 4) j := fun j hj => hc _ _ (zcp_y ht hj)
      refine ⟨e1, e2, e3, e4, fun j hj => ⟨by rw [y4 j (by omega)]; exact (e5 j hj).1, ?_⟩, by rw [y4 3 (by decide)]; exact e6, by rw [y4 4 (by decide)]; exact e7⟩
      rw [(c2 t ht).2.2 j (by omega)]
      by_cases c : t < ix (M 0 15)
      · rw [if_pos c]
        exact (e5 j hj).2
      · rw [if_neg c]
  · rw [m41 t (by omega)] at hs
    rw [c12, e010, m50 t (by omega), cT t 14 (by omega) (by decide) (by decide)]
    exact a3 t ht hs
  · rw [m41 t (by omega)] at hs
    rw [m41 v (by omega)] at hs2
    rw [m50 t (by omega), m50 v (by omega), cT t 14 (by omega) (by decide) (by decide), cT v 14 (by omega) (by decide) (by decide)]
    exact a4 t v ht hv hs hs2
  · exact zOn_same h8 e06 (fun p hp => m68 p hp) (fun t ht => by rw [m41 t (by omega)])
  · rw [m68 p hp] at e
    rw [m69 p hp, cT t 12 (by omega) (by decide) (by decide)]
    exact h9 p t hp ht e
  · rw [m41 t (by omega)] at e
    rw [m49 t (by omega), m101 _ (zin_lt (zmW_at hW t))]
    exact h10 t ht e
  · rw [m47 t ht]
    exact h11 t ht
/-- of a copy the trace begins anew -/
theorem zTr_copy {n K : Nat} {A A2 M : zSg} (h : zI n K A M) (hc : ∀ a b, zcp a b → A2 a b = A a b) : zTr K (A 3 0) (A 3 1) (A 3 2) (ix (M 0 1)) A2 (mF_copy M) := by
  have hn := zI_n h
  have hx := zI_ix h
  obtain ⟨c1, c0, c2⟩ := copy_at (M := M) (by omega)
  obtain ⟨s1, s2, s3, s4, s5, s6, s9, s10, s15, s11, s12, s13, s14⟩ := cset_at M
  have e11 := (c0 11).trans s11
  have e12 := (c0 12).trans s12
  have e13 := (c0 13).trans s13
  have e14 := (c0 14).trans s14
  have e01 : mF_copy M 0 1 = M 0 1 := (c0 1).trans s1
  refine ⟨⟨?_, ?_, ?_, ?_⟩, fun p b hp h1 h30 hb => ?_, ?_⟩
  · rw [e11, hc 3 0 (by unfold zcp; omega), Int32.zero_add]
  · rw [e12, hc 3 1 (by unfold zcp; omega), Int32.zero_add]
  · rw [e14, hc 3 2 (by unfold zcp; omega), Int32.zero_add]
  · rw [e12, e13, e14]
    rfl
  · rw [e01] at hb
    omega
  · rw [e14]
    exact ⟨by decide, by show (0 : Int) ≤ _; omega⟩
