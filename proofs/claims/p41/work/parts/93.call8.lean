/-! The calls: at the start; the load; the digest -/
theorem new_t {t f y : Nat} (hf : f < 5) : cF_new (15 + 5 * t + f) y = cN4 (nI t) f y := by
  unfold cF_new
  rw [if_neg (by omega), ← cN0_t hf]
theorem zI_new : zI 0 0 cF_new mF_new := by
  have z : ∀ {f : Nat}, f ≠ 0 → f ≠ 68 → f ≠ 101 → ∀ j, mF_new f j = 0 := fun h0 h1 h2 j => congrFun (mF_new_0 h0 h1 h2) j
  refine ⟨⟨by decide, rfl⟩, ?_, zmW_new, fun t ht => (new_t (f := 0) (by decide)).trans rfl, ⟨fun t _ ht => ⟨z (by decide) (by decide) (by decide) t, z (by decide) (by decide) (by decide) t, fun j _ => ⟨z (by omega) (by omega) (by omega) j, z (by omega) (by omega) (by omega) j⟩⟩, fun t ht => absurd ht (Nat.not_lt_zero t)⟩, fun t ht => ?_, ⟨⟨by decide, by decide⟩, ⟨by decide, by decide⟩, fun t ht => absurd ht (Nat.not_lt_zero t), fun t _ ht => absurd ht (Nat.not_lt_zero t)⟩, ⟨fun t ht => absurd ht (Nat.not_lt_zero t), fun p hp h => absurd (if_pos hp) h, fun p _ hp _ _ h => absurd (if_pos hp) h, fun p hp _ => if_pos hp⟩, fun _ t _ ht => absurd ht (Nat.not_lt_zero t), fun t ht => absurd ht (Nat.not_lt_zero t), fun t _ => by rw [z (by decide) (by decide) (by decide) t]; exact ⟨by decide, by decide⟩, ⟨by decide, by decide⟩⟩
  · intro f j hd
    rcases hd with ⟨rfl, x⟩ | ⟨x, hj⟩ | ⟨x, hj⟩ | ⟨x, hj⟩ | ⟨x1, x2, hj⟩ | ⟨x1, x2, hj⟩ | ⟨x1, x2, hj⟩ | ⟨rfl, hj⟩ | ⟨x, hj⟩
    · rcases x with rfl | rfl | rfl | rfl | rfl | rfl | rfl | rfl <;> rfl
    · rcases x with rfl | rfl
      · rw [z (by decide) (by decide) (by decide) j]; rfl
      · rw [z (by decide) (by decide) (by decide) j]; rfl
    · have e : ∀ y, y = 3 ∨ y = 4 ∨ y = 5 ∨ y = 8 ∨ y = 7 ∨ y = 10 ∨ y = 11 → cF_new (ztk j) y = 0 := fun y hy => (new_t (t := j) (f := 0) (by decide)).trans (by
        rcases hy with rfl | rfl | rfl | rfl | rfl | rfl | rfl <;> rfl)
      rcases x with rfl | rfl | rfl | rfl | rfl | rfl | rfl | rfl
      · rw [z (by decide) (by decide) (by decide) j]; exact e 3 (by decide)
      · rw [z (by decide) (by decide) (by decide) j]; exact e 4 (by decide)
      · rw [z (by decide) (by decide) (by decide) j]; exact (new_t (t := j) (f := 1) (by decide)).trans rfl
      · rw [z (by decide) (by decide) (by decide) j]; exact e 5 (by decide)
      · rw [z (by decide) (by decide) (by decide) j]; exact e 8 (by decide)
      · rw [z (by decide) (by decide) (by decide) j]; exact e 7 (by decide)
      · rw [z (by decide) (by decide) (by decide) j]; exact e 10 (by decide)
      · rw [z (by decide) (by decide) (by decide) j]; exact e 11 (by decide)
    · exact absurd hj (Nat.not_lt_zero j)
    · obtain ⟨t, rfl⟩ : ∃ t, f = 8 + t := ⟨f - 8, by omega⟩
      rw [zph_8 j (by omega), z (by omega) (by omega) (by omega) j]
      exact (new_t (t := t) (f := 2) (by decide)).trans rfl
    · obtain ⟨t, rfl⟩ : ∃ t, f = 25 + t := ⟨f - 25, by omega⟩
      rw [zph_25 j (by omega), z (by omega) (by omega) (by omega) j]
      exact (new_t (t := t) (f := 3) (by decide)).trans rfl
    · exact absurd x2 (by omega)
    · show cF_new 12 j = mF_new 68 j
      rw [show mF_new 68 j = -1 from if_pos hj]
      exact if_pos (Or.inr ⟨rfl, hj⟩)
    · rcases x with rfl | rfl
      · show cF_new 10 j = mF_new 101 j
        rw [show mF_new 101 j = -1 from if_pos hj]
        exact if_pos (Or.inl ⟨rfl, hj⟩)
      · rw [z (by decide) (by decide) (by decide) j]; rfl
  · have s0 : mF_new 41 t = 0 := z (by decide) (by decide) (by decide) t
    have ne : ∀ x : Int32, ¬ (0 : Int32) = x → ¬ mF_new 41 t = x := fun x hx e => hx (s0.symm.trans e)
    have l0 : mF_new 6 t = 0 := z (by decide) (by decide) (by decide) t
    refine ⟨fun _ => ?_, fun g => absurd g (ne 6 (by decide)), fun g => absurd g (ne 3 (by decide)), fun g => ?_, fun g => absurd s0 g, fun g => absurd s0 g, fun s hs => ?_, fun _ => ⟨z (by decide) (by decide) (by decide) t, z (by decide) (by decide) (by decide) t, z (by decide) (by decide) (by decide) t, ?_, fun j hj => ⟨?_, z (by omega) (by omega) (by omega) j⟩, ?_, ?_⟩⟩
    · rw [z (by decide) (by decide) (by decide) t]
      exact (new_t (t := t) (f := 0) (by decide)).trans rfl
    · rcases g with g | g
      · exact absurd g (ne 4 (by decide))
      · exact absurd g (ne 5 (by decide))
    · rw [l0] at hs
      exact absurd hs (Nat.not_lt_zero s)
    · exact (new_t (t := t) (f := 0) (by decide)).trans rfl
    · refine (new_t (t := t) (f := 4) (by decide)).trans ?_
      show (if 0 = 0 ∧ (j = 3 ∨ j = 4) then (-1 : Int32) else 0) = 0
      exact if_neg (by omega)
    · exact (new_t (t := t) (f := 4) (by decide)).trans rfl
    · exact (new_t (t := t) (f := 4) (by decide)).trans rfl
theorem zQR_new : zQR 0 0 cF_new mF_new := ⟨zI_new, ⟨⟨rfl, rfl, rfl, rfl⟩, fun p b hp h1 _ h3 => absurd h3 (by rw [show ix (mF_new 0 1) = 0 from rfl]; omega), ⟨by decide, by decide⟩⟩⟩
theorem zU_new : zU cF_new := zU_of zI_new
section CZ
variable {n K : Nat} {A M : zSg}
theorem load_eq (h : zQR n K A M) : cF_load A = mF_load M := by
  obtain ⟨⟨h1, h2, h3, h4⟩, -, h5⟩ := h.2
  rw [Int32.add_zero] at h2 h3
  have e : A 3 2 - A 3 1 = M 0 13 := by rw [h3, h2, h4, Int32.add_comm, Int32.add_sub_cancel]
  unfold cF_load mF_load
  rw [e, h3]
  by_cases c : M 0 14 = 0
  · rw [if_pos c, if_neg (by rw [c]; decide)]
  · rw [if_neg c, if_pos]
    rw [i_lt, show (0 : Int32).toInt = 0 from rfl]
    rcases Int.lt_or_eq_of_le h5.1 with g | g
    · exact g
    · exact absurd (Int32.toInt_inj.mp (g.symm.trans rfl)) c
theorem ran_eq (h : zQR n K A M) (hK : K ≤ 190000) {i : Nat} {b : Int32} (hi : i < 3) (c : 1 ≤ b.toInt ∧ b.toInt ≤ 30) : cF_ranIn A (nI i) (A 0 9 - b) = mF_ran M (nI i) b := by
  have hclk := zI_K h.1
  have e9 : A 0 9 = M 0 1 := ze_clk (zI_E h.1)
  have es : (M 0 1 - b).toInt = (M 0 1).toInt - b.toInt := fb_subI (by omega) (by omega)
  unfold cF_ranIn mF_ran
  rw [e9, if_neg (nI_pos (by omega)), if_pos (zlt_T (x := 3) (by decide) hi)]
  by_cases c2 : M 0 1 < b
  · rw [if_pos c2, if_pos]
    rw [i_lt] at c2 ⊢
    rw [es, show (0 : Int32).toInt = 0 from rfl]
    omega
  · rw [i_lt] at c2
    rw [if_neg (by rw [i_lt, es, show (0 : Int32).toInt = 0 from rfl]; omega), if_neg (by rw [i_lt]; exact c2), zix (by omega), mod30 (by omega)]
    have z1 := ztoInt (x := b) (by omega)
    have z2 := ztoInt (x := M 0 1) (by omega)
    have z3 := ztoInt (x := M 0 1 - b) (by omega)
    have eb : (b - 1).toInt = b.toInt - 1 := fb_subI (y := 1) (by rw [show (1 : Int32).toInt = 1 from rfl]; omega) (by rw [show (1 : Int32).toInt = 1 from rfl]; omega)
    have z4 := ztoInt (x := b - 1) (by omega)
    have := h.2.2.1 i (ix b) hi (by omega) (by omega) (by omega)
    rw [show ix (M 0 1 - b) = ix (M 0 1) - ix b by omega, show ix (b - 1) = ix b - 1 by omega, this]
theorem fold_eq {α : Type} (f g : α → Nat → α) : ∀ (N : Nat) (s : α), (∀ i s, i < N → f s i = g s i) → (List.range N).foldl f s = (List.range N).foldl g s := by
  intro N
  induction N with
  | zero => intro s _; rfl
  | succ N ih =>
    intro s h
    rw [List.range_succ, List.foldl_append, List.foldl_append, ih s (fun i s hi => h i s (by omega))]
    exact h N _ (by omega)
theorem d_told (h : zQR n K A M) {i : Nat} (hi : i < n) (s : Int64) : cD_told A i s = zdr (M (52 + i)) 5 s := fold_eq _ _ 5 s (fun w s hw => by
  show zdg s (cF_tell A i (nI w)) = zdg s (M (52 + i) w)
  rw [tell_nI A i hw, ze_cnt (zI_n h.1) (zI_E h.1) hi hw])
theorem d_task (h : zQR n K A M) {i : Nat} (hi : i < n) (s : Int64) : cD_task A i s = mD_task M i s := by
  have hn := zI_n h.1
  have hL := zQR_lent h
  have hv := lent_eq h.1 hi
  have e : ∀ (f : Nat → Int32) (s : Int64), zdr f 7 s = zdg (zdg (zdg (zdg (zdg (zdg (zdg s (f 0)) (f 1)) (f 2)) (f 3)) (f 4)) (f 5)) (f 6) := fun _ _ => rfl
  have s5 := zI_st h.1 (t := i) (by omega)
  have s1 : cF_stepOf A i = M 42 i := by
    unfold cF_stepOf
    rw [s5]
    by_cases c : M 41 i = 6
    · rw [if_pos c, ze_len (zI_E h.1) (by omega), (zI_T h.1 hi).2.1 c]
    · rw [if_neg c, (zI_T h.1 hi).1 c]
  have m0 : mD_of M i 0 = M 41 i := rfl
  have m1 : mD_of M i 1 = M 42 i := rfl
  have m2 : mD_of M i 2 = M 43 i := rfl
  have m3 : mD_of M i 3 = mF_key M (nI i) := rfl
  have m4 : mD_of M i 4 = mF_lent M (nI i) := rfl
  have m5 : mD_of M i 5 = M 45 i := rfl
  have m6 : mD_of M i 6 = M 46 i := rfl
  unfold cD_task mD_task
  generalize cF_lent A = A2 at hL hv ⊢
  rw [d_told hL hi, e, m0, m1, m2, m3, m4, m5, m6, s5, s1, ze_gone (zI_E h.1) (by omega), key_eq h.1 hi, hv, ze_stand (zI_E hL.1) hi, ze_lev (zI_E hL.1) (by omega)]
theorem d_tasks (h : zQR n K A M) : zQR n K (cD_tasks A).1 M ∧ (cD_tasks A).2 = (List.range n).foldl (fun s i => mD_task M i s) (cD_head A) := by
  have e10 : ix (A 0 10) = n := by
    rw [ze_n (zI_E h.1), h.1.1.2]
    have := zI_n h.1
    exact zix (by omega)
  unfold cD_tasks
  rw [e10]
  have key : ∀ N, N ≤ n → zQR n K ((List.range N).foldl (fun s i => cD_step i s) (A, cD_head A)).1 M ∧ ((List.range N).foldl (fun s i => cD_step i s) (A, cD_head A)).2 = (List.range N).foldl (fun s i => mD_task M i s) (cD_head A) := by
    intro N
    induction N with
    | zero => intro _; exact ⟨h, rfl⟩
    | succ N ih =>
      intro hN
      obtain ⟨g1, g2⟩ := ih (by omega)
      rw [List.range_succ, List.foldl_append, List.foldl_append, ← g2]
      generalize (List.range N).foldl (fun s i => cD_step i s) (A, cD_head A) = r at g1
      rw [List.foldl_cons, List.foldl_nil, List.foldl_cons, List.foldl_nil, cD_step_1, cD_step_2]
      exact ⟨zQR_lent g1, d_task g1 (by omega) _⟩
  exact key n (Nat.le_refl n)
theorem d_proc (h : zQR n K A M) (hK : K ≤ 190000) {p : Nat} (hp : p < 3) (s : Int64) : cD_proc A p s = mD_proc M p s := by
  unfold cD_proc mD_proc
  rw [on_nI A hp, ze_on (zI_E h.1) hp]
  refine fold_eq _ _ 5 _ (fun b s hb => ?_)
  show zdg s (cF_ranIn A (nI p) (A 0 9 - nI (b + 1))) = zdg s (mF_ran M (nI p) (nI (b + 1)))
  rw [ran_eq h hK hp (by rw [nI_rng (by omega)]; omega)]
theorem d_rest (h : zQR n K A M) (hK : K ≤ 190000) (s : Int64) : cD_rest A s = (List.range 6).foldl (fun s i => mD_event M i s) ((List.range 6).foldl (fun s i => mD_lock M i s) (zdr (M 2) 4 ((List.range (ix (M 0 6))).foldl (fun s i => mD_proc M i s) s))) := by
  have e1 : cD_procs A s = (List.range (ix (M 0 6))).foldl (fun s i => mD_proc M i s) s := by
    unfold cD_procs
    rw [ze_pr (zI_E h.1)]
    exact fold_eq _ _ _ _ (fun p s hp => d_proc h hK (by have := zmW_p3 (zI_W h.1); omega) s)
  have e2 : ∀ s, cD_used A s = zdr (M 2) 4 s := fun s => fold_eq _ _ 4 s (fun g s hg => by
    show zdg s (A 9 (ix (nI g))) = zdg s (M 2 g)
    rw [zix (by omega), ze_used (zI_E h.1) hg])
  have e3 : ∀ s, cD_locks A s = (List.range 6).foldl (fun s i => mD_lock M i s) s := fun s => fold_eq _ _ 6 s (fun q s hq => by
    show zdg (zdg s (cF_holder A (nI q))) (cF_wt A 4 (nI q)) = zdg (zdg s (M 101 q)) (mF_those M 4 (nI q))
    rw [cF_holder_nI A hq, ze_hold (zI_E h.1) hq, those_eq h.1 (Or.inl rfl) hq])
  have e4 : ∀ s, cD_events A s = (List.range 6).foldl (fun s i => mD_event M i s) s := fun s => fold_eq _ _ 6 s (fun q s hq => by
    show zdg (zdg s (cF_number A (nI q))) (cF_wt A 5 (nI q)) = zdg (zdg s (M 102 q)) (mF_those M 5 (nI q))
    rw [number_nI A hq, ze_sig (zI_E h.1) hq, those_eq h.1 (Or.inr rfl) hq])
  unfold cD_rest
  rw [e4, e3, e2, e1]
theorem digest_eq (h : zQR n K A M) (hK : K ≤ 190000) : zQR n K (cF_digest A).1 M ∧ (cF_digest A).2 = mF_digest M := by
  obtain ⟨g1, g2⟩ := d_tasks h
  have eh : cD_head A = zdr (mD_head M) 6 58049 := by
    have e : ∀ (f : Nat → Int32) (s : Int64), zdr f 6 s = zdg (zdg (zdg (zdg (zdg (zdg s (f 0)) (f 1)) (f 2)) (f 3)) (f 4)) (f 5) := fun _ _ => rfl
    have t1 := h.2.1.1
    have t2 := h.2.1.2.1
    rw [Int32.add_zero] at t1 t2
    have m0 : mD_head M 0 = M 0 1 := rfl
    have m1 : mD_head M 1 = M 0 15 := rfl
    have m2 : mD_head M 2 = M 0 6 := rfl
    have m3 : mD_head M 3 = M 0 11 := rfl
    have m4 : mD_head M 4 = M 0 12 := rfl
    have m5 : mD_head M 5 = mF_stuck M := rfl
    unfold cD_head
    rw [e, m0, m1, m2, m3, m4, m5, ze_clk (zI_E h.1), ze_n (zI_E h.1), ze_pr (zI_E h.1), t1, t2, stuck_eq h.1]
  have hx := zI_ix h.1
  refine ⟨g1, ?_⟩
  show cD_rest (cD_tasks A).1 (cD_tasks A).2 = _
  rw [d_rest g1 hK, g2, eh]
  unfold mF_digest
  rw [hx]
end CZ
