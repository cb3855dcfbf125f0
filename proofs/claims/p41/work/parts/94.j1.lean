/-! p41's own invariant, over the cells M of the reference -/
def zc (M : zSg) (t j : Nat) : Int := (M (52 + t) j).toInt
def zsm (M : zSg) : Nat → Int
  | 0 => 0
  | n + 1 => zsm M n + zc M n 0
/-- who may be one ahead of the clock, in a tick: o, m processors gone -/
def zX (o : Bool) (m : Nat) (M : zSg) (t : Nat) : Prop := o = true ∧ (M 41 t = 6 ∨ ∃ p, p < m ∧ M 68 p = nI t)
def zJn (n : Nat) (o : Bool) (m : Nat) (M : zSg) : Prop := ∀ t, t < n →
  (0 ≤ zc M t 0 ∧ 0 ≤ zc M t 1 ∧ 0 ≤ zc M t 2) ∧ (0 < zc M t 0 ↔ 0 ≤ zc M t 3) ∧ (0 ≤ zc M t 4 ↔ M 41 t = 6) ∧
  (zc M t 0 + zc M t 1 + zc M t 2 ≤ (M 0 1).toInt ∨ (zc M t 0 + zc M t 1 + zc M t 2 ≤ (M 0 1).toInt + 1 ∧ zX o m M t))
/-- locks: held by who is neither new nor done (but w.1, whose locks from w.2 on are still to be given up), nor waits there -/
def zJl (n : Nat) (w : Nat × Nat) (M : zSg) : Prop := ∀ q t, q < 6 → t < 16 → M 101 q = nI t → (t = w.1 ∧ w.2 ≤ q) ∨ (¬ M 41 t = 0 ∧ ¬ M 41 t = 6 ∧ (M 41 t = 4 → ¬ M 49 t = nI q))
def zJe (n : Nat) (M : zSg) : Prop := ∀ q t, q < 6 → t < n → M 41 t = 5 → M 49 t = nI q → M 102 q = 0
def zJs (n B : Nat) (M : zSg) : Prop := (0 ≤ (M 0 9).toInt ∧ (M 0 9).toInt ≤ B) ∧ ∀ t, t < n → ¬ M 41 t = 0 → ¬ M 41 t = 6 → 0 ≤ (M 45 t).toInt
def zJr (n : Nat) (M : zSg) : Prop := M 0 1 = 0 ∨ ∀ p, p < 3 → M 71 p = -1 ∨ ∃ t, t < n ∧ M 71 p = nI t
def zJ (n B : Nat) (d : Int) (o : Bool) (m : Nat) (w : Nat × Nat) (M : zSg) : Prop := zJn n o m M ∧ zJl n w M ∧ zJe n M ∧ zJs n B M ∧ zsm M n = (M 0 13).toInt + d ∧ zJr n M
/-- what few write -/
def zKy (A M : zSg) : Prop := (∀ j, j = 1 ∨ j = 13 → M 0 j = A 0 j) ∧ ∀ f j, (52 ≤ f ∧ f < 68) ∨ f = 71 → M f j = A f j
theorem zKy_r (A : zSg) : zKy A A := ⟨fun _ _ => rfl, fun _ _ _ => rfl⟩
theorem zKy_t {A B C : zSg} (h : zKy A B) (h2 : zKy B C) : zKy A C := ⟨fun j q => (h2.1 j q).trans (h.1 j q), fun f j q => (h2.2 f j q).trans (h.2 f j q)⟩
theorem zKy_up {A M : zSg} (h : zKy A M) {f j : Nat} {v : Int32} (hf : ¬ (f = 0 ∧ (j = 1 ∨ j = 13)) ∧ ¬ (52 ≤ f ∧ f < 68) ∧ ¬ f = 71) : zKy A (zup M f j v) :=
  ⟨fun i q => by rw [zup_o (by omega)]; exact h.1 i q, fun x i q => by rw [zup_o (by omega)]; exact h.2 x i q⟩
theorem zKy_fold {A : zSg} (b : Nat → zSg → zSg) (N : Nat) (hb : ∀ k s, k < N → zKy A s → zKy A (b k s)) {s : zSg} (h : zKy A s) : zKy A ((List.range N).foldl (fun s k => b k s) s) :=
  q_fold (P := fun _ s => zKy A s) b N h hb
section ZKYF
variable {A M : zSg}
theorem ky_ready (h : zKy A M) (t : Int32) : zKy A (mF_ready M t) := zKy_up (zKy_up (zKy_up h (by omega)) (by omega)) (by omega)
theorem ky_wake (h : zKy A M) (t : Int32) : zKy A (mF_wake M t) := by
  unfold mF_wake
  refine ky_ready ?_ t
  have h1 : zKy A (if M 0 2 = 1 then zup M 46 (ix t) (if 0 < M 46 (ix t) - 1 then M 46 (ix t) - 1 else 0) else M) := by
    split
    · exact zKy_up h (by omega)
    · exact h
  generalize (if M 0 2 = 1 then zup M 46 (ix t) (if 0 < M 46 (ix t) - 1 then M 46 (ix t) - 1 else 0) else M) = M1 at h1
  split
  · exact zKy_up h1 (by omega)
  · exact h1
theorem ky_leave (h : zKy A M) (t : Int32) : zKy A (mF_leave M t) := zKy_fold (mB_leave t) _ (fun k s _ hs => by
  unfold mB_leave
  split
  · exact zKy_up hs (by omega)
  · exact hs) h
theorem ky_free (h : zKy A M) (l : Int32) : zKy A (mF_free M l) := by
  unfold mF_free
  have h1 : zKy A (zup M 101 (ix l) (-1)) := zKy_up h (by omega)
  dsimp only
  generalize zup M 101 (ix l) (-1) = M1 at h1
  split
  · exact h1
  · exact ky_wake (zKy_up (zKy_up h1 (by omega)) (by omega)) _
theorem ky_signal (h : zKy A M) (e : Int32) : zKy A (mF_signal M e) := by
  unfold mF_signal
  split
  · exact zKy_up h (by omega)
  · exact ky_wake (zKy_up h (by omega)) _
theorem ky_stay (h : zKy A M) (t its place : Int32) : zKy A (mF_stay M t its place) := zKy_up (zKy_up (zKy_up (zKy_up (ky_leave h t) (by omega)) (by omega)) (by omega)) (by omega)
end ZKYF
theorem zsm_cg {M M' : zSg} : ∀ n, (∀ t, t < n → zc M' t 0 = zc M t 0) → zsm M' n = zsm M n
  | 0, _ => rfl
  | n + 1, h => by
    show zsm M' n + zc M' n 0 = zsm M n + zc M n 0
    rw [zsm_cg n (fun t ht => h t (by omega)), h n (by omega)]
theorem zsm_up {M M' : zSg} {u : Nat} : ∀ n, u < n → (∀ t, t < n → t ≠ u → zc M' t 0 = zc M t 0) → zc M' u 0 = zc M u 0 + 1 → zsm M' n = zsm M n + 1
  | 0, h, _, _ => absurd h (Nat.not_lt_zero u)
  | n + 1, h, h1, h2 => by
    show zsm M' n + zc M' n 0 = zsm M n + zc M n 0 + 1
    by_cases e : u = n
    · subst e
      rw [zsm_cg u (fun t ht => h1 t (by omega) (by omega)), h2]
      omega
    · rw [zsm_up n (by omega) (fun t ht => h1 t (by omega)) h2, h1 n (by omega) (fun e9 => e e9.symm)]
      omega
theorem zX_mv {o : Bool} {m t : Nat} {M M' : zSg} (h : zX o m M t) (s6 : M 41 t = 6 → M' 41 t = 6) (on : ∀ p, p < m → M' 68 p = M 68 p) : zX o m M' t := by
  refine ⟨h.1, ?_⟩
  rcases h.2 with h | ⟨p, hp, e⟩
  · exact Or.inl (s6 h)
  · exact Or.inr ⟨p, hp, (on p hp).trans e⟩
theorem zc_ky {A M : zSg} (y : zKy A M) {t : Nat} (ht : t < 16) (j : Nat) : zc M t j = zc A t j := by
  unfold zc
  rw [y.2 (52 + t) j (by omega)]
section JMV
variable {n B B' m : Nat} {d : Int} {o : Bool} {w w' : Nat × Nat} {M M' : zSg}
theorem jn_mv (hn : n ≤ 16) (h : zJn n o m M) (y : zKy M M') (s6 : ∀ t, t < n → (M' 41 t = 6 ↔ M 41 t = 6)) (on : ∀ p, p < m → M' 68 p = M 68 p) : zJn n o m M' := by
  intro t ht
  obtain ⟨a, b, c, e⟩ := h t ht
  rw [zc_ky y (by omega), zc_ky y (by omega), zc_ky y (by omega), zc_ky y (by omega), zc_ky y (by omega), y.1 1 (Or.inl rfl)]
  refine ⟨a, b, c.trans (s6 t ht).symm, ?_⟩
  rcases e with e | ⟨e, x⟩
  · exact Or.inl e
  · exact Or.inr ⟨e, zX_mv x (s6 t ht).mpr on⟩
theorem jr_mv (h : zJr n M) (y : zKy M M') : zJr n M' := by
  rcases h with h | h
  · exact Or.inl ((y.1 1 (Or.inl rfl)).trans h)
  · refine Or.inr (fun p hp => ?_)
    rw [y.2 71 p (Or.inr rfl)]
    exact h p hp
theorem j_mk (hn : n ≤ 16) (h : zJ n B d o m w M) (y : zKy M M') (s6 : ∀ t, t < n → (M' 41 t = 6 ↔ M 41 t = 6)) (on : ∀ p, p < m → M' 68 p = M 68 p) (l : zJl n w' M') (e : zJe n M') (s : zJs n B' M') : zJ n B' d o m w' M' := by
  obtain ⟨h1, h2, h3, h4, h5, h6⟩ := h
  refine ⟨jn_mv hn h1 y s6 on, l, e, s, ?_, jr_mv h6 y⟩
  rw [zsm_cg n (fun t ht => zc_ky y (by omega) 0), y.1 13 (Or.inr rfl)]
  exact h5
theorem jl_mv (h : zJl n w M) (hh : ∀ q, q < 6 → M' 101 q = M 101 q) (st : ∀ t, t < 16 → (M' 41 t = M 41 t ∧ M' 49 t = M 49 t) ∨ (¬ M' 41 t = 0 ∧ ¬ M' 41 t = 6 ∧ ¬ M' 41 t = 4)) : zJl n w M' := by
  intro q t hq ht e
  rw [hh q hq] at e
  rcases h q t hq ht e with h1 | ⟨h1, h2, h3⟩
  · exact Or.inl h1
  · rcases st t ht with ⟨g1, g2⟩ | ⟨g1, g2, g3⟩
    · rw [g1, g2]
      exact Or.inr ⟨h1, h2, h3⟩
    · exact Or.inr ⟨g1, g2, fun e9 => absurd e9 g3⟩
theorem je_mv (h : zJe n M) (hh : ∀ q, q < 6 → M' 102 q = M 102 q) (st : ∀ t, t < n → M' 41 t = 5 → M 41 t = 5 ∧ M' 49 t = M 49 t) : zJe n M' := by
  intro q t hq ht e1 e2
  obtain ⟨g1, g2⟩ := st t ht e1
  rw [hh q hq]
  exact h q t hq ht g1 (g2.symm.trans e2)
theorem js_mv (h : zJs n B M) (hs : M' 0 9 = M 0 9) (h45 : ∀ t, t < n → M' 45 t = M 45 t) (st : ∀ t, t < n → ¬ M' 41 t = 0 → ¬ M' 41 t = 6 → ¬ M 41 t = 0 ∧ ¬ M 41 t = 6) : zJs n B M' := by
  refine ⟨by rw [hs]; exact h.1, fun t ht a b => ?_⟩
  obtain ⟨g1, g2⟩ := st t ht a b
  rw [h45 t ht]
  exact h.2 t ht g1 g2
theorem js_le (h : zJs n B M) (hB : B ≤ B') : zJs n B' M := ⟨⟨h.1.1, by have := h.1.2; omega⟩, h.2⟩
/-- u gets a stand -/
theorem js_rdy {u : Nat} (h : zJs n B M) (hB : B ≤ 2000000000) (hs : M' 0 9 = M 0 9 + 1) (h45 : ∀ t, t < n → M' 45 t = if t = u then M 0 9 else M 45 t) (st : ∀ t, t < n → t ≠ u → ¬ M' 41 t = 0 → ¬ M' 41 t = 6 → ¬ M 41 t = 0 ∧ ¬ M 41 t = 6) : zJs n (B + 1) M' := by
  obtain ⟨h0, h9⟩ := h.1
  have e : (M 0 9 + 1).toInt = (M 0 9).toInt + 1 := fb_addI (y := 1) (by rw [show (1 : Int32).toInt = 1 from rfl]; omega) (by rw [show (1 : Int32).toInt = 1 from rfl]; omega)
  refine ⟨by rw [hs, e]; omega, fun t ht a b => ?_⟩
  rw [h45 t ht]
  by_cases c : t = u
  · rw [if_pos c]; exact h0
  · rw [if_neg c]
    obtain ⟨g1, g2⟩ := st t ht c a b
    exact h.2 t ht g1 g2
theorem j_le (h : zJ n B d o m w M) (hB : B ≤ B') : zJ n B' d o m w M := ⟨h.1, h.2.1, h.2.2.1, js_le h.2.2.2.1 hB, h.2.2.2.2⟩
/-- the places that the invariant speaks of -/
def zRl (f j : Nat) : Prop := (f = 0 ∧ (j = 1 ∨ j = 9 ∨ j = 13 ∨ j = 14)) ∨ f = 41 ∨ f = 45 ∨ f = 49 ∨ f = 68 ∨ (52 ≤ f ∧ f < 68) ∨ f = 71 ∨ f = 101 ∨ f = 102
def zIr (M M' : zSg) : Prop := ∀ f j, zRl f j → M' f j = M f j
theorem ir_r (M : zSg) : zIr M M := fun _ _ _ => rfl
theorem ir_up {A M : zSg} (h : zIr A M) {f j : Nat} {v : Int32} (hf : ¬ zRl f j) : zIr A (zup M f j v) := fun x i q => by
  rw [zup_o (fun e => hf (by rw [← e.1, ← e.2]; exact q))]
  exact h x i q
theorem ir_fold {A : zSg} (b : Nat → zSg → zSg) (N : Nat) (hb : ∀ k s, k < N → zIr A s → zIr A (b k s)) {s : zSg} (h : zIr A s) : zIr A ((List.range N).foldl (fun s k => b k s) s) :=
  q_fold (P := fun _ s => zIr A s) b N h hb
theorem ir_y {A M : zSg} (h : zIr A M) : zKy A M := ⟨fun j q => h 0 j (by unfold zRl; omega), fun f j q => h f j (by unfold zRl; omega)⟩
theorem j_ir (hn : n ≤ 16) (h : zJ n B d o m w M) (v : zIr M M') : zJ n B d o m w M' := by
  have e41 : ∀ t, M' 41 t = M 41 t := fun t => v 41 t (by unfold zRl; omega)
  have e49 : ∀ t, M' 49 t = M 49 t := fun t => v 49 t (by unfold zRl; omega)
  refine j_mk hn h (ir_y v) (fun t _ => by rw [e41]) (fun p _ => v 68 p (by unfold zRl; omega)) (jl_mv h.2.1 (fun q _ => v 101 q (by unfold zRl; omega)) (fun t _ => Or.inl ⟨e41 t, e49 t⟩)) (je_mv h.2.2.1 (fun q _ => v 102 q (by unfold zRl; omega)) (fun t _ e => ⟨by rw [← e41]; exact e, e49 t⟩)) (js_mv h.2.2.2.1 (v 0 9 (by unfold zRl; omega)) (fun t _ => v 45 t (by unfold zRl; omega)) (fun t _ a b => by rw [e41] at a b; exact ⟨a, b⟩))
end JMV
