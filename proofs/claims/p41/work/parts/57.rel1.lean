/-! The relation of a machine's cells C and the reference's M, for n tasks: places -/
theorem zup_at (A : zSg) (a k : Nat) (v : Int32) : zup A a k v a k = v := by
  unfold zup
  rw [if_pos rfl, if_pos rfl]
theorem zup_o {A : zSg} {a k x j : Nat} {v : Int32} (h : ¬ (x = a ∧ j = k)) : zup A a k v x j = A x j := by
  unfold zup
  by_cases h1 : x = a
  · rw [if_pos h1, if_neg (fun h2 => h ⟨h1, h2⟩)]
  · rw [if_neg h1]
theorem zup_self (A : zSg) (a k : Nat) : zup A a k (A a k) = A := by
  funext x j
  by_cases h : x = a ∧ j = k
  · obtain ⟨rfl, rfl⟩ := h
    exact zup_at A x j _
  · exact zup_o h
def zdm (n f j : Nat) : Prop :=
  (f = 0 ∧ (j = 1 ∨ j = 2 ∨ j = 3 ∨ j = 4 ∨ j = 5 ∨ j = 6 ∨ j = 9 ∨ j = 15)) ∨ ((f = 1 ∨ f = 2) ∧ j < 4) ∨
  ((f = 3 ∨ f = 4 ∨ f = 6 ∨ f = 41 ∨ f = 43 ∨ f = 44 ∨ f = 46 ∨ f = 47) ∧ j < 16) ∨ ((f = 5 ∨ f = 45) ∧ j < n) ∨
  (8 ≤ f ∧ f < 24 ∧ j < 16) ∨ (25 ≤ f ∧ f < 41 ∧ j < 16) ∨ (52 ≤ f ∧ f < 52 + n ∧ j < 5) ∨ (f = 68 ∧ j < 3) ∨ ((f = 101 ∨ f = 102) ∧ j < 6)
def zph (f j : Nat) : Nat × Nat :=
  if 8 ≤ f ∧ f < 24 then (ztk (f - 8) + 2, j) else if 25 ≤ f ∧ f < 41 then (ztk (f - 25) + 3, j) else if 52 ≤ f ∧ f < 68 then (ztk (f - 52) + 4, j) else
  match f with
  | 0 => (match j with | 1 => (0, 9) | 2 => (1, 1) | 3 => (1, 2) | 4 => (1, 3) | 5 => (1, 4) | 6 => (1, 0) | 9 => (0, 11) | _ => (0, 10))
  | 1 => (2, j) | 2 => (9, j) | 3 => (ztk j, 3) | 4 => (ztk j, 4) | 5 => (ztk j + 1, 0) | 6 => (ztk j + 1, 1)
  | 41 => (ztk j, 5) | 43 => (ztk j, 8) | 44 => (ztk j, 7) | 45 => (ztk j, 9) | 46 => (ztk j, 10) | 47 => (ztk j, 11)
  | 68 => (12, j) | 101 => (10, j) | _ => (11, j)
def zpt (k b t : Nat) : Nat × Nat := match k with
  | 0 => (match b with | 3 => (3, t) | 4 => (4, t) | 5 => (41, t) | 7 => (44, t) | 8 => (43, t) | 9 => (45, t) | 10 => (46, t) | 11 => (47, t) | _ => (999, 99))
  | 1 => (match b with | 0 => (5, t) | 1 => (6, t) | _ => (999, 99))
  | 2 => (8 + t, b) | 3 => (25 + t, b) | _ => (52 + t, b)
def zps (a b : Nat) : Nat × Nat := if 15 ≤ a then zpt ((a - 15) % 5) b ((a - 15) / 5) else match a with
  | 0 => (match b with | 9 => (0, 1) | 11 => (0, 9) | 10 => (0, 15) | _ => (999, 99))
  | 1 => (match b with | 1 => (0, 2) | 2 => (0, 3) | 3 => (0, 4) | 4 => (0, 5) | 0 => (0, 6) | _ => (999, 99))
  | 2 => (1, b) | 9 => (2, b) | 12 => (68, b) | 10 => (101, b) | 11 => (102, b) | _ => (999, 99)
theorem zps_t (t k b : Nat) (hk : k < 5) : zps (ztk t + k) b = zpt k b t := by
  unfold zps
  rw [if_pos (by unfold ztk; omega), show (ztk t + k - 15) % 5 = k by unfold ztk; omega, show (ztk t + k - 15) / 5 = t by unfold ztk; omega]
theorem zph_8 {t : Nat} (j : Nat) (ht : t < 16) : zph (8 + t) j = (ztk t + 2, j) := by
  unfold zph
  rw [if_pos ⟨by omega, by omega⟩, Nat.add_sub_cancel_left]
theorem zph_25 {t : Nat} (j : Nat) (ht : t < 16) : zph (25 + t) j = (ztk t + 3, j) := by
  unfold zph
  rw [if_neg (by omega), if_pos ⟨by omega, by omega⟩, Nat.add_sub_cancel_left]
theorem zph_52 {t : Nat} (j : Nat) (ht : t < 16) : zph (52 + t) j = (ztk t + 4, j) := by
  unfold zph
  rw [if_neg (by omega), if_neg (by omega), if_pos ⟨by omega, by omega⟩, Nat.add_sub_cancel_left]
theorem zps_ph {n f j : Nat} (hn : n ≤ 16) (h : zdm n f j) : zps (zph f j).1 (zph f j).2 = (f, j) := by
  rcases h with ⟨rfl, h⟩ | ⟨h, hj⟩ | ⟨h, hj⟩ | ⟨h, hj⟩ | ⟨h1, h2, hj⟩ | ⟨h1, h2, hj⟩ | ⟨h1, h2, hj⟩ | ⟨rfl, hj⟩ | ⟨h, hj⟩
  · rcases h with rfl | rfl | rfl | rfl | rfl | rfl | rfl | rfl <;> rfl
  · rcases h with rfl | rfl <;> rfl
  · rcases h with rfl | rfl | rfl | rfl | rfl | rfl | rfl | rfl
    · exact zps_t j 0 3 (by decide)
    · exact zps_t j 0 4 (by decide)
    · exact zps_t j 1 1 (by decide)
    · exact zps_t j 0 5 (by decide)
    · exact zps_t j 0 8 (by decide)
    · exact zps_t j 0 7 (by decide)
    · exact zps_t j 0 10 (by decide)
    · exact zps_t j 0 11 (by decide)
  · rcases h with rfl | rfl
    · exact zps_t j 1 0 (by decide)
    · exact zps_t j 0 9 (by decide)
  · obtain ⟨t, rfl⟩ : ∃ t, f = 8 + t := ⟨f - 8, by omega⟩
    rw [zph_8 j (by omega)]
    exact zps_t t 2 j (by decide)
  · obtain ⟨t, rfl⟩ : ∃ t, f = 25 + t := ⟨f - 25, by omega⟩
    rw [zph_25 j (by omega)]
    exact zps_t t 3 j (by decide)
  · obtain ⟨t, rfl⟩ : ∃ t, f = 52 + t := ⟨f - 52, by omega⟩
    rw [zph_52 j (by omega)]
    exact zps_t t 4 j (by decide)
  · rfl
  · rcases h with rfl | rfl <;> rfl
/-- the same at all places that both keep -/
def zE (n : Nat) (C M : zSg) : Prop := ∀ f j, zdm n f j → C (zph f j).1 (zph f j).2 = M f j
theorem zE_u {n a b f j : Nat} {C M : zSg} {v w : Int32} (hn : n ≤ 16) (h : zE n C M) (hd : zdm n f j) (hp : zph f j = (a, b)) (hv : v = w) : zE n (zup C a b v) (zup M f j w) := by
  intro f' j' hd'
  by_cases hx : f' = f ∧ j' = j
  · obtain ⟨rfl, rfl⟩ := hx
    rw [hp]
    show zup C a b v a b = zup M f' j' w f' j'
    rw [zup_at, zup_at]
    exact hv
  · rw [zup_o hx, zup_o (fun he => hx ?_)]
    · exact h f' j' hd'
    · have e1 := zps_ph hn hd
      have e2 := zps_ph hn hd'
      rw [hp] at e1
      rw [he.1, he.2] at e2
      have e3 : (f', j') = (f, j) := e2.symm.trans e1
      cases e3
      exact ⟨rfl, rfl⟩
theorem zE_c {n a b : Nat} {C M : zSg} {v : Int32} (hn : n ≤ 16) (h : zE n C M) (hq : ¬ zdm n (zps a b).1 (zps a b).2) : zE n (zup C a b v) M := by
  intro f' j' hd'
  rw [zup_o (fun he => hq ?_)]
  · exact h f' j' hd'
  · have e2 := zps_ph hn hd'
    rw [he.1, he.2] at e2
    rw [e2]
    exact hd'
theorem zE_m {n f j : Nat} {C M : zSg} {v : Int32} (h : zE n C M) (hq : ¬ zdm n f j) : zE n C (zup M f j v) := by
  intro f' j' hd'
  rw [zup_o (fun he => hq (by rw [← he.1, ← he.2]; exact hd'))]
  exact h f' j' hd'
/-- scratch places of the class -/
theorem znd_t {n t b : Nat} (h : b = 0 ∨ b = 6 ∨ b = 12 ∨ b = 13 ∨ b = 14 ∨ b = 15) : ¬ zdm n (zps (ztk t) b).1 (zps (ztk t) b).2 := by
  have e : zps (ztk t) b = (999, 99) := by
    have := zps_t t 0 b (by decide)
    rw [Nat.add_zero] at this
    rw [this]
    rcases h with rfl | rfl | rfl | rfl | rfl | rfl <;> rfl
  rw [e]
  show ¬ zdm n 999 99
  unfold zdm
  omega
theorem znd_a {n a b : Nat} (h : a = 3 ∨ a = 4 ∨ a = 5 ∨ a = 6 ∨ a = 7 ∨ a = 8 ∨ a = 13 ∨ a = 14) : ¬ zdm n (zps a b).1 (zps a b).2 := by
  have e : zps a b = (999, 99) := by
    rcases h with rfl | rfl | rfl | rfl | rfl | rfl | rfl | rfl <;> rfl
  rw [e]
  show ¬ zdm n 999 99
  unfold zdm
  omega
theorem znd_na {n : Nat} : ¬ zdm n (zps 0 12).1 (zps 0 12).2 := by
  show ¬ zdm n 999 99
  unfold zdm
  omega
section ZEA
variable {n : Nat} {C M : zSg}
theorem ze_clk (h : zE n C M) : C 0 9 = M 0 1 := h 0 1 (by unfold zdm; omega)
theorem ze_way (h : zE n C M) : C 1 1 = M 0 2 := h 0 2 (by unfold zdm; omega)
theorem ze_qu (h : zE n C M) : C 1 2 = M 0 3 := h 0 3 (by unfold zdm; omega)
theorem ze_bo (h : zE n C M) : C 1 3 = M 0 4 := h 0 4 (by unfold zdm; omega)
theorem ze_pe (h : zE n C M) : C 1 4 = M 0 5 := h 0 5 (by unfold zdm; omega)
theorem ze_pr (h : zE n C M) : C 1 0 = M 0 6 := h 0 6 (by unfold zdm; omega)
theorem ze_ns (h : zE n C M) : C 0 11 = M 0 9 := h 0 9 (by unfold zdm; omega)
theorem ze_n (h : zE n C M) : C 0 10 = M 0 15 := h 0 15 (by unfold zdm; omega)
theorem ze_quota (h : zE n C M) {g : Nat} (hg : g < 4) : C 2 g = M 1 g := h 1 g (by unfold zdm; omega)
theorem ze_used (h : zE n C M) {g : Nat} (hg : g < 4) : C 9 g = M 2 g := h 2 g (by unfold zdm; omega)
theorem ze_st (h : zE n C M) {t : Nat} (ht : t < 16) : C (ztk t) 5 = M 41 t := h 41 t (by unfold zdm; omega)
theorem ze_rank (h : zE n C M) {t : Nat} (ht : t < 16) : C (ztk t) 3 = M 3 t := h 3 t (by unfold zdm; omega)
theorem ze_grp (h : zE n C M) {t : Nat} (ht : t < 16) : C (ztk t) 4 = M 4 t := h 4 t (by unfold zdm; omega)
theorem ze_rnd (h : zE n C M) {t : Nat} (ht : t < n) : C (ztk t + 1) 0 = M 5 t := h 5 t (by unfold zdm; omega)
theorem ze_len (h : zE n C M) {t : Nat} (ht : t < 16) : C (ztk t + 1) 1 = M 6 t := h 6 t (by unfold zdm; omega)
theorem ze_gone (h : zE n C M) {t : Nat} (ht : t < 16) : C (ztk t) 8 = M 43 t := h 43 t (by unfold zdm; omega)
theorem ze_part (h : zE n C M) {t : Nat} (ht : t < 16) : C (ztk t) 7 = M 44 t := h 44 t (by unfold zdm; omega)
theorem ze_stand (h : zE n C M) {t : Nat} (ht : t < n) : C (ztk t) 9 = M 45 t := h 45 t (by unfold zdm; omega)
theorem ze_lev (h : zE n C M) {t : Nat} (ht : t < 16) : C (ztk t) 10 = M 46 t := h 46 t (by unfold zdm; omega)
theorem ze_time (h : zE n C M) {t : Nat} (ht : t < 16) : C (ztk t) 11 = M 47 t := h 47 t (by unfold zdm; omega)
theorem ze_on (h : zE n C M) {p : Nat} (hp : p < 3) : C 12 p = M 68 p := h 68 p (by unfold zdm; omega)
theorem ze_hold (h : zE n C M) {q : Nat} (hq : q < 6) : C 10 q = M 101 q := h 101 q (by unfold zdm; omega)
theorem ze_sig (h : zE n C M) {q : Nat} (hq : q < 6) : C 11 q = M 102 q := h 102 q (by unfold zdm; omega)
theorem ze_code (hn : n ≤ 16) (h : zE n C M) {t j : Nat} (ht : t < n) (hj : j < 16) : C (ztk t + 2) j = M (8 + t) j := by
  have := h (8 + t) j (by unfold zdm; omega)
  rw [zph_8 j (by omega)] at this
  exact this
theorem ze_num (hn : n ≤ 16) (h : zE n C M) {t j : Nat} (ht : t < n) (hj : j < 16) : C (ztk t + 3) j = M (25 + t) j := by
  have := h (25 + t) j (by unfold zdm; omega)
  rw [zph_25 j (by omega)] at this
  exact this
theorem ze_cnt (hn : n ≤ 16) (h : zE n C M) {t j : Nat} (ht : t < n) (hj : j < 5) : C (ztk t + 4) j = M (52 + t) j := by
  have := h (52 + t) j (by unfold zdm; omega)
  rw [zph_52 j (by omega)] at this
  exact this
end ZEA
/-! Lent keys, the class's -/
def zLf (C C' : zSg) : Prop := ∀ a b, ¬ (b = 15 ∧ 15 ≤ a ∧ (a - 15) % 5 = 0) → C' a b = C a b
theorem zLf_r (C : zSg) : zLf C C := fun _ _ _ => rfl
theorem zLf_up {C C' : zSg} (h : zLf C C') (k : Nat) (v : Int32) : zLf C (zup C' (ztk k) 15 v) := fun a b hq => by
  rw [zup_o (fun e => hq ⟨e.2, by rw [e.1]; unfold ztk; omega, by rw [e.1]; unfold ztk; omega⟩)]
  exact h a b hq
theorem zLf_t {C C' : zSg} (h : zLf C C') (k : Nat) {b : Nat} (hb : b ≠ 15) : C' (ztk k) b = C (ztk k) b := h _ _ (fun e => hb e.1)
theorem zLf_a {C C' : zSg} (h : zLf C C') {a : Nat} (b : Nat) (ha : a < 15) : C' a b = C a b := h _ _ (fun e => by omega)
theorem zLf_key {C C' : zSg} (h : zLf C C') (k : Nat) (w : Int32) : cF_key C' k w = cF_key C k w := by
  unfold cF_key
  rw [zLf_t h k (b := 3) (by decide), zLf_t h k (b := 10) (by decide), zLf_t h k (b := 11) (by decide)]
theorem zLf_hold {C C' : zSg} (h : zLf C C') (x : Int32) : cF_holder C' x = cF_holder C x := by
  unfold cF_holder
  rw [zLf_a h (ix x) (a := 10) (by decide)]
theorem ztk_inj {t u : Nat} (h : ztk t = ztk u) : t = u := by
  unfold ztk at h
  omega
def qeC (C : zSg) (k : Nat) : Option Nat := if k < 16 ∧ C (ztk k) 5 = 4 then cF_at (cF_holder C (C (ztk k) 13)) else none
theorem qeC_lt (C : zSg) : ∀ x y, qeC C x = some y → y < 16 := by
  intro x y h
  unfold qeC at h
  split at h
  · exact cF_at_lt h
  · cases h
theorem cF_len_all (C : zSg) : zLf C ((List.range 16).foldl (fun s k => cB_len k s) C) ∧ ∀ k, k < 16 → ((List.range 16).foldl (fun s k => cB_len k s) C) (ztk k) 15 = cF_key C k (C 1 1) := by
  refine q_fold (P := fun m s => zLf C s ∧ ∀ k, k < m → s (ztk k) 15 = cF_key C k (C 1 1)) cB_len 16 ⟨zLf_r C, fun k hk => absurd hk (Nat.not_lt_zero k)⟩ ?_
  rintro k s hk ⟨h1, h2⟩
  refine ⟨zLf_up h1 k _, fun k2 hk2 => ?_⟩
  unfold cB_len
  by_cases e : k2 = k
  · subst e
    rw [zup_at, zLf_key h1, zLf_a h1 1 (a := 1) (by decide)]
  · rw [zup_o (fun he => e (ztk_inj he.1))]
    exact h2 k2 (by omega)
def qRl (C : zSg) (s : zSg × Int32) (a : (Nat → Int32) × Int32) : Prop := zLf C s.1 ∧ (∀ k, k < 16 → s.1 (ztk k) 15 = a.1 k) ∧ s.2 = a.2
theorem cB_rel_R {C : zSg} {k : Nat} (hk : k < 16) {s : zSg × Int32} {a : (Nat → Int32) × Int32} (h : qRl C s a) : qRl C (cB_rel k s) (qB (qeC C) k a) := by
  obtain ⟨h1, h2, h3⟩ := h
  unfold cB_rel
  rw [zLf_t h1 k (b := 5) (by decide), zLf_t h1 k (b := 13) (by decide), zLf_hold h1]
  by_cases c : C (ztk k) 5 = 4
  · rw [if_pos c]
    have hq : qeC C k = cF_at (cF_holder C (C (ztk k) 13)) := if_pos ⟨hk, c⟩
    cases hj : cF_at (cF_holder C (C (ztk k) 13)) with
    | none =>
      rw [qB_n a (hq.trans hj)]
      exact ⟨h1, h2, h3⟩
    | some j =>
      have hj16 := cF_at_lt hj
      rw [qB_s a (hq.trans hj)]
      show qRl C (if s.1 (ztk k) 15 < s.1 (ztk j) 15 then (zup s.1 (ztk j) 15 (s.1 (ztk k) 15), 1) else s) (if a.1 k < a.1 j then (upd a.1 j (a.1 k), 1) else a)
      rw [h2 k hk, h2 j hj16]
      by_cases c2 : a.1 k < a.1 j
      · rw [if_pos c2, if_pos c2]
        refine ⟨zLf_up h1 j _, fun k2 hk2 => ?_, rfl⟩
        show zup s.1 (ztk j) 15 (a.1 k) (ztk k2) 15 = upd a.1 j (a.1 k) k2
        unfold upd
        by_cases e : k2 = j
        · subst e
          rw [zup_at, if_pos rfl]
        · rw [zup_o (fun he => e (ztk_inj he.1)), if_neg e]
          exact h2 k2 hk2
      · rw [if_neg c2, if_neg c2]
        exact ⟨h1, h2, h3⟩
  · rw [if_neg c, qB_n a (if_neg (fun e => c e.2))]
    exact ⟨h1, h2, h3⟩
theorem cF_pass_R {C : zSg} {s : zSg} {a : Nat → Int32} (h1 : zLf C s) (h2 : ∀ k, k < 16 → s (ztk k) 15 = a k) : qRl C (cF_pass s) (qP (qeC C) a) :=
  q_fold2 (R := fun _ s a => qRl C s a) (fun k s => cB_rel k s) (fun k s => qB (qeC C) k s) 16 16 (Nat.le_refl _) ⟨h1, h2, rfl⟩ (fun k s t hk h => cB_rel_R hk h) (fun k s t h9 hk h => absurd hk (by omega))
theorem cF_passes_R {C : zSg} : ∀ (j : Nat) {s : zSg × Int32} {a : (Nat → Int32) × Int32}, qRl C s a → zLf C (cF_passes j s) ∧ ∀ k, k < 16 → cF_passes j s (ztk k) 15 = qPs (qeC C) j a k
  | 0, _, _, h => ⟨h.1, h.2.1⟩
  | j + 1, s, a, h => by
    by_cases c : s.2 = 0
    · have e1 : cF_passes (j + 1) s = s.1 := if_pos c
      have e2 : qPs (qeC C) (j + 1) a = a.1 := if_pos (h.2.2 ▸ c)
      rw [e1, e2]
      exact ⟨h.1, h.2.1⟩
    · have e1 : cF_passes (j + 1) s = cF_passes j (cF_pass s.1) := if_neg c
      have e2 : qPs (qeC C) (j + 1) a = qPs (qeC C) j (qP (qeC C) a.1) := if_neg (h.2.2 ▸ c)
      rw [e1, e2]
      exact cF_passes_R j (cF_pass_R h.1 h.2.1)
theorem cF_lent_R (C : zSg) : zLf C (cF_lent C) ∧ ∀ k, k < 16 → cF_lent C (ztk k) 15 = qPs (qeC C) 16 (fun k => cF_key C k (C 1 1), 1) k := by
  obtain ⟨h1, h2⟩ := cF_len_all C
  exact cF_passes_R 16 ⟨h1, h2, rfl⟩
theorem cF_lent_fr (C : zSg) : zLf C (cF_lent C) := (cF_lent_R C).1
theorem cF_lent_mn (C : zSg) {t : Nat} (ht : t < 16) : qmn (qeC C) (fun k => cF_key C k (C 1 1)) t (cF_lent C (ztk t) 15) := by
  rw [(cF_lent_R C).2 t ht]
  exact qPs_all (qeC_lt C) ht
/-! Lent keys, the reference's -/
def qeM (M : zSg) (k : Nat) : Option Nat := if k < ix (M 0 15) ∧ M 41 k = 4 ∧ ¬ M 101 (ix (M 49 k)) = -1 then some (ix (M 101 (ix (M 49 k)))) else none
theorem zhold {M : zSg} (hW : zmW M) {q : Nat} (h : ¬ M 101 q = -1) : ∃ j, j < 16 ∧ M 101 q = nI j := vp_in_of (zin_m1 (b := 15) (hW 101 q) (by decide) h) (by decide)
theorem qeM_lt {M : zSg} (hW : zmW M) : ∀ x y, qeM M x = some y → y < 16 := by
  intro x y h
  unfold qeM at h
  split at h
  · rename_i h1
    obtain ⟨j, hj, ej⟩ := zhold hW h1.2.2
    rw [ej, zix (by omega)] at h
    cases h
    exact hj
  · cases h
theorem qwB {M : zSg} (hW : zmW M) {k : Nat} (hk : k < ix (M 0 15)) (s : Int32) {i : Nat} (hi : i < 32) : bt (mB_waiters M k s) i = true ↔ bt s i = true ∨ (i = k ∧ ∃ h, qeM M k = some h ∧ bt s h = true) := by
  have h16 := zmW_n16 hW
  unfold mB_waiters
  by_cases c1 : M 41 k = 4
  · rw [if_pos c1]
    by_cases c2 : M 101 (ix (M 49 k)) = -1
    · rw [if_pos c2]
      have hq : qeM M k = none := if_neg (fun e => e.2.2 c2)
      rw [hq]
      exact ⟨Or.inl, fun h => h.elim id (fun ⟨_, _, h2, _⟩ => by cases h2)⟩
    · rw [if_neg c2]
      obtain ⟨j, hj, ej⟩ := zhold hW c2
      have hq : qeM M k = some j := by
        unfold qeM
        rw [if_pos ⟨hk, c1, c2⟩, ej, zix (by omega)]
      rw [ej, hq]
      by_cases c3 : bt s j = false
      · rw [if_pos ((q_tst s (by omega)).mpr c3)]
        refine ⟨Or.inl, fun h => h.elim id (fun ⟨_, h1, h2, h3⟩ => ?_)⟩
        cases h2
        rw [c3] at h3
        cases h3
      · rw [if_neg (fun e => c3 ((q_tst s (by omega)).mp e)), q_or s (by omega) hi]
        have c4 : bt s j = true := by
          cases hb : bt s j
          · exact absurd hb c3
          · rfl
        simp only [Bool.or_eq_true, decide_eq_true_eq]
        exact ⟨fun h => h.elim Or.inl (fun h => Or.inr ⟨h, j, rfl, c4⟩), fun h => h.elim Or.inl (fun h => Or.inr h.1)⟩
  · rw [if_neg c1]
    have hq : qeM M k = none := if_neg (fun e => c1 e.2.1)
    rw [hq]
    exact ⟨Or.inl, fun h => h.elim id (fun ⟨_, _, h2, _⟩ => by cases h2)⟩
theorem qW_fix (M : zSg) (t : Int32) : mF_wstep M (mF_waiters M t) = mF_waiters M t :=
  z_while (P := fun s b => s = mF_wstep M b → mF_wstep M (mF_waiters M t) = mF_waiters M t) (mF_wstep M) (mF_wstep_or M) ((1 : Int32) <<< (t &&& 31)) (fun s b _ h _ => h rfl) (fun h => h.symm) rfl
theorem qW_sd {M : zSg} (hW : zmW M) {t : Nat} (ht : t < 16) : ∀ i, i < 32 → bt (mF_waiters M (nI t)) i = true → i < 16 ∧ qre (qeM M) i t := by
  refine zit_inv (P := fun s => ∀ i, i < 32 → bt s i = true → i < 16 ∧ qre (qeM M) i t) (mF_wstep M) (fun s hs => ?_) 4294967296 ((1 : Int32) <<< (nI t &&& 31)) (fun i hi h => ?_)
  · have h16 := zmW_n16 hW
    refine q_fold (P := fun _ s => ∀ i, i < 32 → bt s i = true → i < 16 ∧ qre (qeM M) i t) (fun i s => mB_waiters M i s) (ix (M 0 15)) hs (fun k s hk hs i hi hb => ?_)
    rcases (qwB hW hk s hi).mp hb with h | ⟨rfl, j, h1, h2⟩
    · exact hs i hi h
    · exact ⟨by omega, qre_s h1 (hs j (by have := qeM_lt hW _ _ h1; omega) h2).2⟩
  · rw [q_sh (by omega) hi, decide_eq_true_eq] at h
    subst h
    exact ⟨ht, qre_r _ _⟩
theorem qW_t {M : zSg} {t : Nat} (ht : t < 16) : bt (mF_waiters M (nI t)) t = true :=
  zit_inv (P := fun s => bt s t = true) (mF_wstep M) (fun s hs => q_or_le (mF_wstep_or M s) hs) 4294967296 ((1 : Int32) <<< (nI t &&& 31)) (by rw [q_sh (by omega) (by omega), decide_eq_true rfl])
theorem qW_c1 {M : zSg} (hW : zmW M) {t k j : Nat} (hk : k < ix (M 0 15)) (hj : qeM M k = some j) (hb : bt (mF_waiters M (nI t)) j = true) : bt (mF_waiters M (nI t)) k = true := by
  have h16 := zmW_n16 hW
  have key : (∀ i, i < 32 → bt (mF_waiters M (nI t)) i = true → bt (mF_wstep M (mF_waiters M (nI t))) i = true) ∧ (k < ix (M 0 15) → bt (mF_wstep M (mF_waiters M (nI t))) k = true) := by
    refine q_fold (P := fun m s => (∀ i, i < 32 → bt (mF_waiters M (nI t)) i = true → bt s i = true) ∧ (k < m → bt s k = true)) (fun i s => mB_waiters M i s) (ix (M 0 15)) ⟨fun i _ h => h, fun h => absurd h (Nat.not_lt_zero k)⟩ (fun m s hm h => ⟨fun i hi h9 => (qwB hW hm s hi).mpr (Or.inl (h.1 i hi h9)), fun hkm => ?_⟩)
    by_cases e : k = m
    · subst e
      exact (qwB hW hm s (by omega)).mpr (Or.inr ⟨rfl, j, hj, h.1 j (by have := qeM_lt hW _ _ hj; omega) hb⟩)
    · exact (qwB hW hm s (by omega)).mpr (Or.inl (h.2 (by omega)))
  have := key.2 hk
  rw [qW_fix] at this
  exact this
theorem qW_c {M : zSg} (hW : zmW M) {t : Nat} (ht : t < 16) : ∀ m k, qgo (qeM M) m k = some t → bt (mF_waiters M (nI t)) k = true
  | 0, k, h => by cases h; exact qW_t ht
  | m + 1, k, h => by
    obtain ⟨u, h1, h2⟩ := qgo_one h
    have h3 : k < ix (M 0 15) := by
      unfold qeM at h1
      split at h1
      · rename_i h4
        exact h4.1
      · cases h1
    exact qW_c1 hW h3 h1 (qW_c hW ht m u h2)
theorem qM_lt {M : zSg} {t k : Nat} (ht : t < ix (M 0 15)) (h : qre (qeM M) k t) : k < ix (M 0 15) := by
  obtain ⟨m, hm⟩ := h
  cases m with
  | zero => cases hm; exact ht
  | succ m =>
    obtain ⟨u, h1, _⟩ := qgo_one hm
    unfold qeM at h1
    split at h1
    · rename_i h4
      exact h4.1
    · cases h1
theorem mF_lent_mn {M : zSg} (hW : zmW M) {t : Nat} (ht : t < ix (M 0 15)) : qmn (qeM M) (fun k => mF_key M (nI k)) t (mF_lent M (nI t)) := by
  have h16 := zmW_n16 hW
  have key : (∃ k, k < 16 ∧ qre (qeM M) k t ∧ mF_key M (nI k) = mF_lent M (nI t)) ∧ ∀ k, k < ix (M 0 15) → bt (mF_waiters M (nI t)) k = true → (mF_lent M (nI t)).toInt ≤ (mF_key M (nI k)).toInt := by
    refine q_fold (P := fun m s => (∃ k, k < 16 ∧ qre (qeM M) k t ∧ mF_key M (nI k) = s) ∧ ∀ k, k < m → bt (mF_waiters M (nI t)) k = true → s.toInt ≤ (mF_key M (nI k)).toInt) (fun i s => mB_lent M (mF_waiters M (nI t)) i s) (ix (M 0 15)) ⟨⟨t, by omega, qre_r _ _, rfl⟩, fun k hk => absurd hk (Nat.not_lt_zero k)⟩ (fun k s hk h => ?_)
    obtain ⟨h1, h2⟩ := h
    show (∃ k', k' < 16 ∧ qre (qeM M) k' t ∧ mF_key M (nI k') = mB_lent M (mF_waiters M (nI t)) k s) ∧ ∀ k', k' < k + 1 → bt (mF_waiters M (nI t)) k' = true → (mB_lent M (mF_waiters M (nI t)) k s).toInt ≤ (mF_key M (nI k')).toInt
    unfold mB_lent
    by_cases c1 : bt (mF_waiters M (nI t)) k = false
    · rw [if_pos ((q_tst _ (by omega)).mpr c1)]
      refine ⟨h1, fun k2 hk2 hb => ?_⟩
      by_cases e : k2 = k
      · subst e
        rw [c1] at hb
        cases hb
      · exact h2 k2 (by omega) hb
    · rw [if_neg (fun e => c1 ((q_tst _ (by omega)).mp e))]
      have c3 : bt (mF_waiters M (nI t)) k = true := by
        cases hb : bt (mF_waiters M (nI t)) k
        · exact absurd hb c1
        · rfl
      by_cases c2 : mF_key M (nI k) < s
      · rw [if_pos c2]
        rw [Int32.lt_iff_toInt_lt] at c2
        refine ⟨⟨k, by omega, (qW_sd hW (by omega) k (by omega) c3).2, rfl⟩, fun k2 hk2 hb => ?_⟩
        by_cases e : k2 = k
        · subst e
          exact Int.le_refl _
        · have := h2 k2 (by omega) hb
          omega
      · rw [if_neg c2]
        rw [Int32.lt_iff_toInt_lt] at c2
        refine ⟨h1, fun k2 hk2 hb => ?_⟩
        by_cases e : k2 = k
        · subst e
          omega
        · exact h2 k2 (by omega) hb
  refine ⟨key.1, fun k hk hr => key.2 k (qM_lt ht hr) ?_⟩
  obtain ⟨m, hm⟩ := hr
  exact qW_c hW (by omega) m k hm
