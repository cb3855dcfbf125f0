/-! The relation: what holds of a machine and of the reference at once -/
/-- of one task -/
def zTk (C M : zSg) (t : Nat) : Prop :=
  (¬ M 41 t = 6 → C (ztk t) 6 = M 42 t) ∧ (M 41 t = 6 → M 42 t = M 6 t) ∧
  (M 41 t = 3 → C (ztk t) 13 = M 48 t) ∧ (M 41 t = 4 ∨ M 41 t = 5 → C (ztk t) 13 = M 49 t ∧ ¬ M (8 + t) (ix (M 42 t)) = 0) ∧
  (¬ M 41 t = 0 → ¬ M 41 t = 6 → (0 ≤ (M 42 t).toInt ∧ (M 42 t).toInt < (M 6 t).toInt) ∧ M (8 + t) (ix (M 6 t - 1)) = 0) ∧
  (¬ M 41 t = 0 → ¬ M 41 t = 6 → (M 43 t).toInt < (M 5 t).toInt) ∧
  (∀ s, s < ix (M 6 t) → zok6 (M (8 + t) s) (M (25 + t) s) = true) ∧
  (M 41 t = 0 → M 42 t = 0 ∧ M 43 t = 0 ∧ M 46 t = 0 ∧ C (ztk t) 9 = -1 ∧ (∀ j, j < 3 → C (ztk t + 4) j = 0 ∧ M (52 + t) j = 0) ∧ C (ztk t + 4) 3 = -1 ∧ C (ztk t + 4) 4 = -1)
/-- who came before whom -/
def zAr (n K : Nat) (C M : zSg) : Prop :=
  (0 ≤ (C 0 12).toInt ∧ (C 0 12).toInt ≤ K) ∧ (0 ≤ (M 0 10).toInt ∧ (M 0 10).toInt ≤ K) ∧
  (∀ t, t < n → M 41 t = 4 ∨ M 41 t = 5 → (C (ztk t) 14).toInt < (C 0 12).toInt ∧ (M 50 t).toInt < (M 0 10).toInt) ∧
  ∀ t v, t < n → v < n → M 41 t = 4 ∨ M 41 t = 5 → M 41 v = 4 ∨ M 41 v = 5 → ((M 50 t).toInt < (M 50 v).toInt ↔ (C (ztk t) 14).toInt < (C (ztk v) 14).toInt)
/-- who has a processor -/
def zOn (n : Nat) (M : zSg) : Prop :=
  (∀ t, t < n → M 41 t = 2 → ∃ p, p < 3 ∧ M 68 p = nI t) ∧ (∀ p, p < 3 → ¬ M 68 p = -1 → ∃ t, t < n ∧ M 68 p = nI t ∧ M 41 t = 2) ∧
  (∀ p q, p < 3 → q < 3 → M 68 p = M 68 q → ¬ M 68 p = -1 → p = q) ∧ (∀ p, p < 3 → ix (M 0 6) ≤ p → M 68 p = -1)
def zHd (n : Nat) (C M : zSg) : Prop := ∀ p t, p < 3 → t < n → M 68 p = nI t → C (ztk t) 12 = M 69 p
def zBk (n : Nat) (M : zSg) : Prop := ∀ t, t < n → M 41 t = 4 → ¬ M 101 (ix (M 49 t)) = -1
/-- tasks that aren't there yet; rounds of those that are -/
def zHi (n : Nat) (M : zSg) : Prop := (∀ t, n ≤ t → t < 16 → M 41 t = 0 ∧ M 6 t = 0 ∧ ∀ j, j < 16 → M (8 + t) j = 0 ∧ M (25 + t) j = 0) ∧ ∀ t, t < n → 1 ≤ (M 5 t).toInt
def zI (n K : Nat) (C M : zSg) : Prop :=
  (n ≤ 16 ∧ M 0 15 = nI n) ∧ zE n C M ∧ zmW M ∧ (∀ t, t < 16 → C (ztk t) 0 = nI t) ∧ zHi n M ∧ (∀ t, t < 16 → zTk C M t) ∧
  zAr n K C M ∧ zOn n M ∧ zHd n C M ∧ zBk n M ∧ (∀ t, t < 16 → 0 ≤ (M 47 t).toInt ∧ (M 47 t).toInt ≤ 840 * K) ∧ (0 ≤ (M 0 1).toInt ∧ (M 0 1).toInt ≤ K)
section ZIA
variable {n K : Nat} {C M : zSg}
theorem zI_n (h : zI n K C M) : n ≤ 16 := h.1.1
theorem zI_ix (h : zI n K C M) : ix (M 0 15) = n := by
  have := h.1.1
  rw [h.1.2]
  exact zix (by omega)
theorem zI_E (h : zI n K C M) : zE n C M := h.2.1
theorem zI_W (h : zI n K C M) : zmW M := h.2.2.1
theorem zI_U (h : zI n K C M) {t : Nat} (ht : t < 16) : C (ztk t) 0 = nI t := h.2.2.2.1 t ht
theorem zI_H (h : zI n K C M) {t : Nat} (h1 : n ≤ t) (h2 : t < 16) : M 41 t = 0 := (h.2.2.2.2.1.1 t h1 h2).1
theorem zI_T (h : zI n K C M) {t : Nat} (ht : t < n) : zTk C M t := h.2.2.2.2.2.1 t (by have := h.1.1; omega)
theorem zI_A (h : zI n K C M) : zAr n K C M := h.2.2.2.2.2.2.1
theorem zI_O (h : zI n K C M) : zOn n M := h.2.2.2.2.2.2.2.1
theorem zI_D (h : zI n K C M) : zHd n C M := h.2.2.2.2.2.2.2.2.1
theorem zI_B (h : zI n K C M) : zBk n M := h.2.2.2.2.2.2.2.2.2.1
theorem zI_M (h : zI n K C M) {t : Nat} (ht : t < n) : 0 ≤ (M 47 t).toInt ∧ (M 47 t).toInt ≤ 840 * K := h.2.2.2.2.2.2.2.2.2.2.1 t (by have := h.1.1; omega)
theorem zI_K (h : zI n K C M) : 0 ≤ (M 0 1).toInt ∧ (M 0 1).toInt ≤ K := h.2.2.2.2.2.2.2.2.2.2.2
theorem zI_st (h : zI n K C M) {t : Nat} (ht : t < 16) : C (ztk t) 5 = M 41 t := ze_st (zI_E h) ht
/-- no task beyond n is anywhere -/
theorem zI_lt (h : zI n K C M) {t : Nat} (ht : t < 16) (hs : ¬ M 41 t = 0) : t < n := Nat.not_le.mp fun e => hs (zI_H h e ht)
end ZIA
theorem nI_nm : ∀ u, u < 16 → ¬ nI u = -1 := by decide +kernel
theorem nI_inj {a b : Nat} (ha : a < 16) (hb : b < 16) (h : nI a = nI b) : a = b := (nI_eq (by omega) (by omega)).mp h
theorem cF_at_nI {j : Nat} (hj : j < 16) : cF_at (nI j) = some j := by
  unfold cF_at
  rw [if_neg (nI_pos (by omega)), if_pos (zlt_T (x := 16) (by decide) hj), zix (by omega)]
theorem cF_at_m1 : cF_at (-1) = none := by decide
theorem cF_holder_nI (C : zSg) {q : Nat} (hq : q < 6) : cF_holder C (nI q) = C 10 q := by
  unfold cF_holder
  rw [if_neg (nI_pos (by omega)), if_pos (zlt_T (x := 6) (by decide) hq), zix (by omega)]
theorem z49 {M : zSg} (hW : zmW M) (k : Nat) : ∃ q, q < 6 ∧ M 49 k = nI q := vp_in_of (zmW_at hW k) (by decide)
theorem qe_eq {n K : Nat} {C M : zSg} (h : zI n K C M) (k : Nat) : qeC C k = qeM M k := by
  have hn := zI_n h
  by_cases hk : k < n
  · unfold qeC qeM
    rw [zI_st h (by omega), zI_ix h]
    by_cases c : M 41 k = 4
    · have hw := ((zI_T h hk).2.2.2.1 (Or.inl c)).1
      rw [if_pos ⟨by omega, c⟩, hw]
      obtain ⟨q, hq, eq⟩ := z49 (zI_W h) k
      rw [eq, cF_holder_nI C hq, zix (by omega), ze_hold (zI_E h) hq]
      by_cases c2 : M 101 q = -1
      · rw [c2, if_neg (fun e => e.2.2 rfl)]
        exact cF_at_m1
      · obtain ⟨j, hj, ej⟩ := zhold (zI_W h) c2
        rw [if_pos ⟨hk, c, c2⟩, ej, zix (by omega)]
        exact cF_at_nI hj
    · rw [if_neg (fun e => c e.2), if_neg (fun e => c e.2.1)]
  · unfold qeC qeM
    rw [zI_ix h, if_neg (c := k < n ∧ _) (fun e => hk e.1)]
    refine if_neg (fun e => ?_)
    have := e.2
    rw [zI_st h e.1, zI_H h (by omega) e.1] at this
    exact absurd this (by decide)
theorem key_eq {n K : Nat} {C M : zSg} (h : zI n K C M) {k : Nat} (hk : k < n) : cF_key C k (C 1 1) = mF_key M (nI k) := by
  have hn := zI_n h
  unfold cF_key mF_key
  rw [ze_way (zI_E h), zix (by omega), ze_rank (zI_E h) (by omega), ze_lev (zI_E h) (by omega), ze_time (zI_E h) (by omega)]
theorem lent_eq {n K : Nat} {C M : zSg} (h : zI n K C M) {t : Nat} (ht : t < n) : cF_lent C (ztk t) 15 = mF_lent M (nI t) := by
  have hn := zI_n h
  have hx := zI_ix h
  have he : qeC C = qeM M := funext (qe_eq h)
  have h1 := cF_lent_mn C (t := t) (by omega)
  have h2 := mF_lent_mn (zI_W h) (t := t) (by omega)
  rw [he] at h1
  refine qmn_one (qmn_cg (fun k _ => Iff.rfl) (fun k hk hr => ?_) h1) h2
  have := qM_lt (by omega) hr
  exact key_eq h (by omega)
/-- the lent keys of those that wait for a lock, when it is taken from one that waits for none -/
theorem lent_cut {n K : Nat} {C M : zSg} (h : zI n K C M) {q i t : Nat} (hq : q < 6) (hi : i < 16) (hh : M 101 q = nI i) (h4 : ¬ M 41 i = 4) (ht : t < n) (hti : t ≠ i) : cF_lent C (ztk t) 15 = mF_lent (zup M 101 q (-1)) (nI t) := by
  have hn := zI_n h
  have hx := zI_ix h
  have he : qeC C = qeM M := funext (qe_eq h)
  have hW1 : zmW (zup M 101 q (-1)) := zmW_up (zI_W h) (f := 101) zr_m1
  have hx1 : ix (zup M 101 q (-1) 0 15) = n := hx
  have h1 := cF_lent_mn C (t := t) (by omega)
  have h2 := mF_lent_mn hW1 (t := t) (by omega)
  rw [he] at h1
  refine qmn_one (qmn_cg (fun k _ => qre_cut (i := i) (fun x => ?_) ?_ hti k) (fun k hk hr => ?_) h1) h2
  · unfold qeM
    rw [hx, hx1]
    show (if x < n ∧ M 41 x = 4 ∧ ¬ zup M 101 q (-1) 101 (ix (M 49 x)) = -1 then some (ix (zup M 101 q (-1) 101 (ix (M 49 x)))) else none) = _ ∨ ((if x < n ∧ M 41 x = 4 ∧ ¬ zup M 101 q (-1) 101 (ix (M 49 x)) = -1 then some (ix (zup M 101 q (-1) 101 (ix (M 49 x)))) else none) = none ∧ _)
    by_cases c : ix (M 49 x) = q
    · rw [c, zup_at, if_neg (fun e => e.2.2 rfl)]
      by_cases c2 : x < n ∧ M 41 x = 4
      · right
        refine ⟨rfl, ?_⟩
        rw [hh, if_pos ⟨c2.1, c2.2, nI_nm i hi⟩, zix (by omega)]
      · left
        rw [if_neg (fun e => c2 ⟨e.1, e.2.1⟩)]
    · left
      rw [zup_o (fun e => c e.2)]
  · exact if_neg (fun e => h4 e.2.1)
  · have := qM_lt (by omega) hr
    exact key_eq h (by omega)
/-! who has a processor -/
theorem zOn_same {n : Nat} {M M' : zSg} (h : zOn n M) (h6 : M' 0 6 = M 0 6) (h1 : ∀ p, p < 3 → M' 68 p = M 68 p) (h2 : ∀ t, t < n → (M' 41 t = 2 ↔ M 41 t = 2)) : zOn n M' := by
  obtain ⟨a, b, c, d⟩ := h
  refine ⟨fun t ht hs => ?_, fun p hp hm => ?_, fun p q hp hq e hm => ?_, fun p hp h9 => ?_⟩
  · obtain ⟨p, hp, e⟩ := a t ht ((h2 t ht).mp hs)
    exact ⟨p, hp, by rw [h1 p hp]; exact e⟩
  · rw [h1 p hp] at hm ⊢
    obtain ⟨t, ht, e, hs⟩ := b p hp hm
    exact ⟨t, ht, e, (h2 t ht).mpr hs⟩
  · rw [h1 p hp] at e hm
    rw [h1 q hq] at e
    exact c p q hp hq e hm
  · rw [h1 p hp]
    rw [h6] at h9
    exact d p hp h9
theorem zOn_off {n : Nat} {M M' : zSg} (hn : n ≤ 16) (h : zOn n M) {u p : Nat} (hu : u < n) (hp : p < 3) (hup : M 68 p = nI u) (h6 : M' 0 6 = M 0 6) (h1 : ∀ q, q < 3 → M' 68 q = if q = p then -1 else M 68 q) (h2 : ∀ t, t < n → t ≠ u → (M' 41 t = 2 ↔ M 41 t = 2)) (h3 : ¬ M' 41 u = 2) : zOn n M' := by
  obtain ⟨a, b, c, d⟩ := h
  refine ⟨fun t ht hs => ?_, fun q hq hm => ?_, fun q r hq hr e hm => ?_, fun q hq h9 => ?_⟩
  · have htu : t ≠ u := fun e => h3 (e ▸ hs)
    obtain ⟨q, hq, e⟩ := a t ht ((h2 t ht htu).mp hs)
    refine ⟨q, hq, ?_⟩
    rw [h1 q hq, if_neg (fun e9 => htu ?_)]
    · exact e
    · subst e9
      exact nI_inj (by omega) (by omega) (e.symm.trans hup)
  · rw [h1 q hq] at hm ⊢
    by_cases e9 : q = p
    · rw [if_pos e9] at hm
      exact absurd rfl hm
    · rw [if_neg e9] at hm ⊢
      obtain ⟨t, ht, e, hs⟩ := b q hq hm
      refine ⟨t, ht, e, (h2 t ht (fun e8 => e9 ?_)).mpr hs⟩
      subst e8
      exact c q p hq hp (e.trans hup.symm) hm
  · rw [h1 q hq] at e hm
    rw [h1 r hr] at e
    by_cases e9 : q = p
    · rw [if_pos e9] at hm
      exact absurd rfl hm
    · rw [if_neg e9] at hm e
      by_cases e8 : r = p
      · rw [if_pos e8] at e
        exact absurd e hm
      · rw [if_neg e8] at e
        exact c q r hq hr e hm
  · rw [h1 q hq]
    by_cases e9 : q = p
    · rw [if_pos e9]
    · rw [if_neg e9]
      rw [h6] at h9
      exact d q hq h9
theorem zOn_on {n : Nat} {M M' : zSg} (hn : n ≤ 16) (h : zOn n M) {u p : Nat} (hu : u < n) (hp : p < 3) (hpp : p < ix (M 0 6)) (hm1 : M 68 p = -1) (hs2 : ¬ M 41 u = 2) (h6 : M' 0 6 = M 0 6) (h1 : ∀ q, q < 3 → M' 68 q = if q = p then nI u else M 68 q) (h2 : ∀ t, t < n → t ≠ u → (M' 41 t = 2 ↔ M 41 t = 2)) (h3 : M' 41 u = 2) : zOn n M' := by
  obtain ⟨a, b, c, d⟩ := h
  have hno : ∀ q, q < 3 → M 68 q ≠ nI u := by
    intro q hq e
    obtain ⟨t, ht, e2, hs⟩ := b q hq (by rw [e]; exact nI_nm u (by omega))
    have : t = u := nI_inj (by omega) (by omega) (e2.symm.trans e)
    subst this
    exact hs2 hs
  refine ⟨fun t ht hs => ?_, fun q hq hm => ?_, fun q r hq hr e hm => ?_, fun q hq h9 => ?_⟩
  · by_cases htu : t = u
    · exact ⟨p, hp, by rw [h1 p hp, if_pos rfl, htu]⟩
    · obtain ⟨q, hq, e⟩ := a t ht ((h2 t ht htu).mp hs)
      refine ⟨q, hq, ?_⟩
      rw [h1 q hq, if_neg (fun e9 => ?_)]
      · exact e
      · rw [e9, hm1] at e
        exact absurd e.symm (nI_nm t (by omega))
  · rw [h1 q hq] at hm ⊢
    by_cases e9 : q = p
    · rw [if_pos e9]
      exact ⟨u, hu, rfl, h3⟩
    · rw [if_neg e9] at hm ⊢
      obtain ⟨t, ht, e, hs⟩ := b q hq hm
      exact ⟨t, ht, e, (h2 t ht (fun e8 => hs2 (e8 ▸ hs))).mpr hs⟩
  · rw [h1 q hq] at e hm
    rw [h1 r hr] at e
    by_cases e9 : q = p
    · by_cases e8 : r = p
      · rw [e9, e8]
      · rw [if_pos e9, if_neg e8] at e
        exact absurd e.symm (hno r hr)
    · rw [if_neg e9] at hm e
      by_cases e8 : r = p
      · rw [if_pos e8] at e
        exact absurd e (hno q hq)
      · rw [if_neg e8] at e
        exact c q r hq hr e hm
  · rw [h1 q hq]
    rw [h6] at h9
    rw [if_neg (by omega)]
    exact d q hq h9
/-- nobody else's processor -/
theorem zOn_no {n : Nat} {M : zSg} (hn : n ≤ 16) (h : zOn n M) {u : Nat} (hu : u < 16) (hs : ¬ M 41 u = 2) : ∀ p, p < 3 → ¬ M 68 p = nI u := by
  intro p hp e
  obtain ⟨t, ht, e2, hs2⟩ := h.2.1 p hp (by rw [e]; exact nI_nm u hu)
  have : t = u := nI_inj (by omega) hu (e2.symm.trans e)
  subst this
  exact hs hs2
theorem zOn_pp {n : Nat} {M : zSg} (h : zOn n M) {p : Nat} (hp : p < 3) (hm : ¬ M 68 p = -1) : p < ix (M 0 6) := Nat.not_le.mp fun e => hm (h.2.2.2 p hp e)
theorem mF_leave_at (M : zSg) (x : Int32) (f j : Nat) : mF_leave M x f j = if f = 68 ∧ j < ix (M 0 6) ∧ M 68 j = x then -1 else M f j := by
  have key : ∀ f j, mF_leave M x f j = if f = 68 ∧ j < ix (M 0 6) ∧ M 68 j = x then -1 else M f j := by
    refine q_fold (P := fun m s => ∀ f j, s f j = if f = 68 ∧ j < m ∧ M 68 j = x then -1 else M f j) (fun i s => mB_leave x i s) (ix (M 0 6)) (fun f j => by rw [if_neg (by omega)]) (fun k s hk h => ?_)
    intro f j
    have e := h 68 k
    rw [if_neg (by omega)] at e
    show mB_leave x k s f j = _
    unfold mB_leave
    rw [e]
    by_cases c : M 68 k = x
    · rw [if_pos c]
      by_cases c2 : f = 68 ∧ j = k
      · obtain ⟨rfl, rfl⟩ := c2
        rw [zup_at, if_pos ⟨rfl, by omega, c⟩]
      · rw [zup_o c2, h f j]
        by_cases c3 : f = 68 ∧ j < k ∧ M 68 j = x
        · rw [if_pos c3, if_pos ⟨c3.1, by omega, c3.2.2⟩]
        · rw [if_neg c3, if_neg (fun e9 => c3 ⟨e9.1, ?_, e9.2.2⟩)]
          have : j ≠ k := fun e8 => c2 ⟨e9.1, e8⟩
          omega
    · rw [if_neg c, h f j]
      by_cases c3 : f = 68 ∧ j < k ∧ M 68 j = x
      · rw [if_pos c3, if_pos ⟨c3.1, by omega, c3.2.2⟩]
      · rw [if_neg c3, if_neg (fun e9 => c3 ⟨e9.1, ?_, e9.2.2⟩)]
        have : j ≠ k := fun e8 => c (e8 ▸ e9.2.2)
        omega
  exact key f j
theorem cF_leave_at (C : zSg) (i f j : Nat) : cF_leave C i f j = if f = 12 ∧ j < 3 ∧ C 12 j = C (ztk i) 0 then -1 else C f j := by
  have key : ∀ f j, cF_leave C i f j = if f = 12 ∧ j < 3 ∧ C 12 j = C (ztk i) 0 then -1 else C f j := by
    refine q_fold (P := fun m s => ∀ f j, s f j = if f = 12 ∧ j < m ∧ C 12 j = C (ztk i) 0 then -1 else C f j) (fun k s => cB_leave i k s) 3 (fun f j => by rw [if_neg (by omega)]) (fun k s hk h => ?_)
    intro f j
    have e := h 12 k
    rw [if_neg (by omega)] at e
    have e0 := h (ztk i) 0
    rw [if_neg (by unfold ztk; omega)] at e0
    show cB_leave i k s f j = _
    unfold cB_leave
    rw [e, e0]
    by_cases c : C 12 k = C (ztk i) 0
    · rw [if_pos c]
      by_cases c2 : f = 12 ∧ j = k
      · obtain ⟨rfl, rfl⟩ := c2
        rw [zup_at, if_pos ⟨rfl, by omega, c⟩]
      · rw [zup_o c2, h f j]
        by_cases c3 : f = 12 ∧ j < k ∧ C 12 j = C (ztk i) 0
        · rw [if_pos c3, if_pos ⟨c3.1, by omega, c3.2.2⟩]
        · rw [if_neg c3, if_neg (fun e9 => c3 ⟨e9.1, ?_, e9.2.2⟩)]
          have : j ≠ k := fun e8 => c2 ⟨e9.1, e8⟩
          omega
    · rw [if_neg c, h f j]
      by_cases c3 : f = 12 ∧ j < k ∧ C 12 j = C (ztk i) 0
      · rw [if_pos c3, if_pos ⟨c3.1, by omega, c3.2.2⟩]
      · rw [if_neg c3, if_neg (fun e9 => c3 ⟨e9.1, ?_, e9.2.2⟩)]
        have : j ≠ k := fun e8 => c (e8 ▸ e9.2.2)
        omega
  exact key f j
theorem mF_leave_on {n : Nat} {M : zSg} (hn : n ≤ 16) (h : zOn n M) {u p : Nat} (hu : u < 16) (hp : p < 3) (hup : M 68 p = nI u) (hP : ix (M 0 6) ≤ 3) : mF_leave M (nI u) = zup M 68 p (-1) := by
  have hm : ¬ M 68 p = -1 := by rw [hup]; exact nI_nm u hu
  have hpp := zOn_pp h hp hm
  funext f j
  rw [mF_leave_at]
  by_cases c : f = 68 ∧ j = p
  · obtain ⟨rfl, rfl⟩ := c
    rw [zup_at, if_pos ⟨rfl, hpp, hup⟩]
  · rw [zup_o c, if_neg (fun e => c ⟨e.1, ?_⟩)]
    exact (h.2.2.1 p j hp (by omega) (hup.trans e.2.2.symm) hm).symm
theorem mF_leave_no {M : zSg} {u : Nat} (hno : ∀ p, p < 3 → ¬ M 68 p = nI u) (hP : ix (M 0 6) ≤ 3) : mF_leave M (nI u) = M := by
  funext f j
  rw [mF_leave_at, if_neg (fun e => hno j (by omega) e.2.2)]
theorem cF_leave_on {n : Nat} {C M : zSg} (hE : zE n C M) (h : zOn n M) {u p : Nat} (hu : u < 16) (hU : C (ztk u) 0 = nI u) (hp : p < 3) (hup : M 68 p = nI u) : cF_leave C u = zup C 12 p (-1) := by
  have hm : ¬ M 68 p = -1 := by rw [hup]; exact nI_nm u hu
  funext f j
  rw [cF_leave_at, hU]
  by_cases c : f = 12 ∧ j = p
  · obtain ⟨rfl, rfl⟩ := c
    rw [zup_at, if_pos ⟨rfl, hp, (ze_on hE hp).trans hup⟩]
  · rw [zup_o c, if_neg (fun e => c ⟨e.1, ?_⟩)]
    have e2 := e.2.2
    rw [ze_on hE e.2.1] at e2
    exact (h.2.2.1 p j hp e.2.1 (hup.trans e2.symm) hm).symm
theorem cF_leave_no {n : Nat} {C M : zSg} (hE : zE n C M) {u : Nat} (hU : C (ztk u) 0 = nI u) (hno : ∀ p, p < 3 → ¬ M 68 p = nI u) : cF_leave C u = C := by
  funext f j
  rw [cF_leave_at, hU, if_neg (fun e => hno j e.2.1 ?_)]
  rw [← ze_on hE e.2.1]
  exact e.2.2
