/-! The relation: what copyFrom copies -/
def zCo (P : Nat → Nat → Prop) (A B C : zSg) : Prop := ∀ a b, (P a b → C a b = A a b) ∧ (¬ P a b → C a b = B a b)
theorem co_nil (A B : zSg) : zCo (fun _ _ => False) A B B := fun _ _ => ⟨fun h => h.elim, fun _ => rfl⟩
theorem co_up {P : Nat → Nat → Prop} {A B C : zSg} (h : zCo P A B C) (f j : Nat) : zCo (fun a b => P a b ∨ (a = f ∧ b = j)) A B (zup C f j (A f j)) := by
  intro a b
  by_cases c : a = f ∧ b = j
  · obtain ⟨rfl, rfl⟩ := c
    exact ⟨fun _ => by unfold zup; rw [if_pos rfl, if_pos rfl], fun h9 => absurd (Or.inr ⟨rfl, rfl⟩) h9⟩
  · have e : zup C f j (A f j) a b = C a b := by
      unfold zup
      by_cases c1 : a = f
      · rw [if_pos c1, if_neg (fun c2 => c ⟨c1, c2⟩), c1]
      · rw [if_neg c1]
    rw [e]
    exact ⟨fun h9 => (h a b).1 (h9.resolve_right c), fun h9 => (h a b).2 (fun x => h9 (Or.inl x))⟩
theorem co_rc {P : Nat → Nat → Prop} {A B C : zSg} (h : zCo P A B C) (f n : Nat) : zCo (fun a b => P a b ∨ (a = f ∧ b < n)) A B (mF_rc A f n C) := by
  intro a b
  rw [mF_rc_at]
  by_cases c : a = f ∧ b < n
  · rw [if_pos c]
    exact ⟨fun _ => by rw [c.1], fun h9 => absurd (Or.inr c) h9⟩
  · rw [if_neg c]
    exact ⟨fun h9 => (h a b).1 (h9.resolve_right c), fun h9 => (h a b).2 (fun x => h9 (Or.inl x))⟩
theorem co_or {P Q : Nat → Nat → Prop} {A B C : zSg} (h : zCo P A B C) (hp : ∀ a b, P a b ↔ Q a b) : zCo Q A B C := fun a b => ⟨fun x => (h a b).1 ((hp a b).mpr x), fun x => (h a b).2 (fun y => x ((hp a b).mp y))⟩
theorem co_fold {Q : Nat → Nat → Nat → Prop} {A B : zSg} (F : zSg → Nat → zSg) (hF : ∀ i P C, zCo P A B C → zCo (fun a b => P a b ∨ Q i a b) A B (F C i)) : ∀ (N : Nat) {P : Nat → Nat → Prop} {C : zSg}, zCo P A B C → zCo (fun a b => P a b ∨ ∃ i, i < N ∧ Q i a b) A B ((List.range N).foldl F C) := by
  intro N
  induction N with
  | zero => intro P C h; exact co_or h (fun a b => ⟨Or.inl, fun x => x.elim id (fun ⟨i, hi, _⟩ => absurd hi (Nat.not_lt_zero _))⟩)
  | succ N ih =>
    intro P C h
    rw [List.range_succ, List.foldl_append]
    refine co_or (hF N _ _ (ih h)) (fun a b => ?_)
    constructor
    · rintro ((x | ⟨i, hi, q⟩) | q)
      · exact Or.inl x
      · exact Or.inr ⟨i, Nat.lt_succ_of_lt hi, q⟩
      · exact Or.inr ⟨N, Nat.lt_succ_self N, q⟩
    · rintro (x | ⟨i, hi, q⟩)
      · exact Or.inl (Or.inl x)
      · rcases Nat.lt_succ_iff_lt_or_eq.mp hi with g | rfl
        · exact Or.inl (Or.inr ⟨i, g, q⟩)
        · exact Or.inr q
def zct (i a b : Nat) : Prop := (a = ztk i ∧ 3 ≤ b ∧ b < 16) ∨ (a = ztk i + 1 ∧ b < 2) ∨ ((a = ztk i + 2 ∨ a = ztk i + 3) ∧ b < 16) ∨ (a = ztk i + 4 ∧ b < 5)
theorem co_s {P : Nat → Nat → Prop} {A B C : zSg} (h : zCo P A B C) (f m : Nat) : zCo (fun a b => P a b ∨ (a = f ∧ m ≤ b ∧ b < m)) A B C := co_or h (fun a b => ⟨Or.inl, fun x => x.resolve_right (fun y => by omega)⟩)
theorem co_n {P : Nat → Nat → Prop} {A B C : zSg} {f m n : Nat} (hn : m ≤ n) (h : zCo (fun a b => P a b ∨ (a = f ∧ m ≤ b ∧ b < n)) A B C) : zCo (fun a b => P a b ∨ (a = f ∧ m ≤ b ∧ b < n + 1)) A B (zup C f n (A f n)) := by
  refine co_or (co_up h f n) (fun a b => ?_)
  by_cases c : P a b
  · exact ⟨fun _ => Or.inl c, fun _ => Or.inl (Or.inl c)⟩
  · refine ⟨fun x => Or.inr ?_, fun x => ?_⟩
    · rcases x with (x | x) | x
      · exact absurd x c
      · exact ⟨x.1, x.2.1, by omega⟩
      · exact ⟨x.1, by omega, by omega⟩
    · have x := x.resolve_left c
      by_cases e : b = n
      · exact Or.inr ⟨x.1, e⟩
      · exact Or.inl (Or.inr ⟨x.1, x.2.1, by omega⟩)
theorem co_t {A B C : zSg} (i : Nat) (P : Nat → Nat → Prop) (h : zCo P A B C) : zCo (fun a b => P a b ∨ zct i a b) A B (cC4 A i C) := by
  have h1 := co_rc (co_rc (co_n (by decide) (co_n (by decide) (co_s h (ztk i + 1) 0))) (ztk i + 2) 16) (ztk i + 3) 16
  have h2 := co_n (by decide) (co_n (by decide) (co_n (by decide) (co_n (by decide) (co_n (by decide) (co_s h1 (ztk i + 4) 0)))))
  have h3 := co_s h2 (ztk i) 3
  have h3 := co_n (by decide) (co_n (by decide) (co_n (by decide) (co_n (by decide) h3)))
  have h3 := co_n (by decide) (co_n (by decide) (co_n (by decide) (co_n (by decide) h3)))
  have h3 := co_n (by decide) (co_n (by decide) (co_n (by decide) (co_n (by decide) (co_n (by decide) h3))))
  refine co_or h3 (fun a b => ?_)
  show ((((((P a b ∨ (a = ztk i + 1 ∧ 0 ≤ b ∧ b < 2)) ∨ (a = ztk i + 2 ∧ b < 16)) ∨ (a = ztk i + 3 ∧ b < 16)) ∨ (a = ztk i + 4 ∧ 0 ≤ b ∧ b < 5)) ∨ (a = ztk i ∧ 3 ≤ b ∧ b < 16)) ↔ _)
  unfold zct
  by_cases c : P a b
  · exact ⟨fun _ => Or.inl c, fun _ => Or.inl (Or.inl (Or.inl (Or.inl (Or.inl c))))⟩
  · constructor
    · rintro (((((x | x) | x) | x) | x) | x)
      · exact absurd x c
      · exact Or.inr (Or.inr (Or.inl ⟨x.1, x.2.2⟩))
      · exact Or.inr (Or.inr (Or.inr (Or.inl ⟨Or.inl x.1, x.2⟩)))
      · exact Or.inr (Or.inr (Or.inr (Or.inl ⟨Or.inr x.1, x.2⟩)))
      · exact Or.inr (Or.inr (Or.inr (Or.inr ⟨x.1, x.2.2⟩)))
      · exact Or.inr (Or.inl x)
    · rintro (x | x | x | ⟨x | x, y⟩ | x)
      · exact absurd x c
      · exact Or.inr x
      · exact Or.inl (Or.inl (Or.inl (Or.inl (Or.inr ⟨x.1, Nat.zero_le _, x.2⟩))))
      · exact Or.inl (Or.inl (Or.inl (Or.inr ⟨x, y⟩)))
      · exact Or.inl (Or.inl (Or.inr ⟨x, y⟩))
      · exact Or.inl (Or.inr ⟨x.1, Nat.zero_le _, x.2⟩)
theorem co_all (A B : zSg) : ∃ P, zCo P A B (cC0 A B) ∧ (∀ a b, zcp a b → P a b) ∧ ∀ t, t < 16 → ¬ P (ztk t) 0 := by
  have h1 := co_rc (co_up (co_up (co_up (co_up (co_up (co_nil A B) 1 0) 1 1) 1 2) 1 3) 1 4) 2 4
  have h2 := co_up (co_up (co_up h1 3 0) 3 1) 3 2
  have h3 := co_fold (Q := fun i a b => a = 5 + i ∧ b < 30) (fun s p => mF_rc A (5 + p) 30 s) (fun i P C h => co_rc h (5 + i) 30) 3 h2
  have h4 := co_fold (Q := zct) (fun s i => cC4 A i s) (fun i P C h => co_t i P h) 16 h3
  have h5 := co_rc (co_rc (co_rc (co_rc h4 9 4) 10 6) 11 6) 12 3
  have h6 := co_up (co_up (co_up (co_up h5 0 9) 0 10) 0 11) 0 12
  refine ⟨_, h6, fun a b h => ?_, fun t ht h => ?_⟩
  · unfold zcp at h
    rcases h with h | h | h | h | h | h | h | h | ⟨t, ht, h⟩
    · rcases h with ⟨rfl, rfl | rfl | rfl | rfl⟩ <;> simp
    · simp only [eq_self_iff_true, false_or]
      refine Or.inl (Or.inl (Or.inl (Or.inl (Or.inl (Or.inl (Or.inl (Or.inl (Or.inl (Or.inl (Or.inl (Or.inl (Or.inl ?_))))))))))))
      omega
    · refine Or.inl (Or.inl (Or.inl (Or.inl (Or.inl (Or.inl (Or.inl (Or.inl (Or.inl (Or.inl (Or.inl (Or.inl (Or.inl (Or.inr ?_)))))))))))))
      exact h
    · refine Or.inl (Or.inl (Or.inl (Or.inl (Or.inl (Or.inl (Or.inl (Or.inl (Or.inl (Or.inl ?_)))))))))
      omega
    · refine Or.inl (Or.inl (Or.inl (Or.inl (Or.inl (Or.inl (Or.inl (Or.inl (Or.inl (Or.inr ⟨a - 5, by omega, by omega, h.2⟩)))))))))
    · exact Or.inl (Or.inl (Or.inl (Or.inl (Or.inl (Or.inl (Or.inl (Or.inr h)))))))
    · rcases h.1 with e | e
      · exact Or.inl (Or.inl (Or.inl (Or.inl (Or.inl (Or.inl (Or.inr ⟨e, h.2⟩))))))
      · exact Or.inl (Or.inl (Or.inl (Or.inl (Or.inl (Or.inr ⟨e, h.2⟩)))))
    · exact Or.inl (Or.inl (Or.inl (Or.inl (Or.inr h))))
    · exact Or.inl (Or.inl (Or.inl (Or.inl (Or.inl (Or.inl (Or.inl (Or.inl (Or.inr ⟨t, ht, h⟩))))))))
  · have h4 : ∀ i, i < 16 → ¬ zct i (ztk t) 0 := fun i hi h9 => by
      unfold zct ztk at h9
      omega
    have h5 : ∀ i, i < 3 → ¬ (ztk t = 5 + i ∧ 0 < 30) := fun i hi h9 => by
      unfold ztk at h9
      omega
    have h6 : ¬ ∃ i, i < 16 ∧ zct i (ztk t) 0 := fun ⟨i, hi, h9⟩ => h4 i hi h9
    have h7 : ¬ ∃ i, i < 3 ∧ (ztk t = 5 + i ∧ 0 < 30) := fun ⟨i, hi, h9⟩ => h5 i hi h9
    have h8 : ∀ k, k < 15 → ¬ ztk t = k := fun k hk h9 => by unfold ztk at h9; omega
    rcases h with (((((((((((((((((((h | h) | h) | h) | h) | h) | h) | h) | h) | h) | h) | h) | h) | h) | h) | h) | h) | h) | h) | h)
    all_goals first | exact h | exact h6 h | exact h7 h | exact h8 _ (by decide) h.1
theorem cC0_c {A B : zSg} : ∀ a b, zcp a b → cC0 A B a b = A a b := by
  obtain ⟨P, h, h1, h2⟩ := co_all A B
  exact fun a b hc => (h a b).1 (h1 a b hc)
theorem cC0_U {A B : zSg} {t : Nat} (ht : t < 16) : cC0 A B (ztk t) 0 = B (ztk t) 0 := by
  obtain ⟨P, h, h1, h2⟩ := co_all A B
  exact (h _ _).2 (h2 t ht)
