/-! The relation: who is stuck, who waits where -/
theorem zI_bl {n K : Nat} {C M : zSg} (h : zI n K C M) : zBl M := fun t ht hs => zI_B h t (zI_lt h ht (by rw [hs]; decide)) hs
theorem qe_blk {n K : Nat} {C M : zSg} (h : zI n K C M) {t : Nat} (ht : t < 16) (hs : M 41 t = 4) : ∃ x, x < 16 ∧ qeM M t = some x ∧ M 101 (ix (M 49 t)) = nI x := by
  have htn := zI_lt h ht (by rw [hs]; decide)
  have hb := zI_bl h t ht hs
  obtain ⟨x, hx, ex⟩ := zhold (zI_W h) hb
  refine ⟨x, hx, ?_, ex⟩
  unfold qeM
  rw [if_pos ⟨by rw [zI_ix h]; exact htn, hs, hb⟩, ex, zix (by omega)]
theorem qe_nb {M : zSg} {t : Nat} (hs : ¬ M 41 t = 4) : qeM M t = none := if_neg (fun e => hs e.2.1)
theorem chaseM {n K : Nat} {C M : zSg} (h : zI n K C M) : ∀ (j t : Nat), t < 16 → (M 41 (ix (mF_chase M j (nI t))) = 4 ↔ ∃ y, qgo (qeM M) (j + 1) t = some y) := by
  intro j
  induction j with
  | zero =>
    intro t ht
    show M 41 (ix (nI t)) = 4 ↔ _
    rw [zix (by omega)]
    constructor
    · intro hs
      obtain ⟨x, hx, e, _⟩ := qe_blk h ht hs
      exact ⟨x, by show (qeM M t).bind (qgo (qeM M) 0) = some x; rw [e]; rfl⟩
    · rintro ⟨y, hy⟩
      obtain ⟨u, h1, _⟩ := qgo_one hy
      refine Classical.byContradiction fun hs => ?_
      rw [qe_nb hs] at h1
      cases h1
  | succ j ih =>
    intro t ht
    have e0 : mF_chase M (j + 1) (nI t) = if M 41 t = 4 then mF_chase M j (M 101 (ix (M 49 t))) else nI t := by
      rw [mF_chase, zix (by omega)]
    rw [e0]
    by_cases hs : M 41 t = 4
    · obtain ⟨x, hx, e, ex⟩ := qe_blk h ht hs
      rw [if_pos hs, ex, ih x hx]
      have e9 : qgo (qeM M) (j + 1 + 1) t = qgo (qeM M) (j + 1) x := by
        show (qeM M t).bind (qgo (qeM M) (j + 1)) = _
        rw [e]
        rfl
      rw [e9]
    · rw [if_neg hs, zix (by omega)]
      refine ⟨fun e => absurd e hs, fun ⟨y, hy⟩ => ?_⟩
      obtain ⟨u, h1, _⟩ := qgo_one hy
      rw [qe_nb hs] at h1
      cases h1
theorem chaseC {n K : Nat} {C M : zSg} (h : zI n K C M) : ∀ (j t : Nat), t < 16 → (cF_chase C j (some t) = true ↔ ∃ y, qgo (qeM M) (j + 1) t = some y) := by
  have nb : ∀ t, t < 16 → cF_nb C (some t) = if M 41 t = 4 then true else false := fun t ht => by
    show (if C (ztk t) 5 = 4 then true else false) = _
    rw [zI_st h ht]
  intro j
  induction j with
  | zero =>
    intro t ht
    show cF_nb C (some t) = true ↔ _
    rw [nb t ht]
    constructor
    · intro e
      by_cases hs : M 41 t = 4
      · obtain ⟨x, hx, e, _⟩ := qe_blk h ht hs
        exact ⟨x, by show (qeM M t).bind (qgo (qeM M) 0) = some x; rw [e]; rfl⟩
      · rw [if_neg hs] at e
        cases e
    · rintro ⟨y, hy⟩
      obtain ⟨u, h1, _⟩ := qgo_one hy
      by_cases hs : M 41 t = 4
      · rw [if_pos hs]
      · rw [qe_nb hs] at h1
        cases h1
  | succ j ih =>
    intro t ht
    rw [cF_chase, nb t ht]
    by_cases hs : M 41 t = 4
    · obtain ⟨x, hx, e, ex⟩ := qe_blk h ht hs
      have enx : cF_nx C (some t) = some x := by
        show cF_at (cF_holder C (C (ztk t) 13)) = some x
        have e2 := qe_eq h t
        rw [e] at e2
        unfold qeC at e2
        rw [if_pos ⟨ht, (zI_st h ht).trans hs⟩] at e2
        exact e2
      rw [if_pos hs, if_pos rfl, enx, ih x hx]
      have e9 : qgo (qeM M) (j + 1 + 1) t = qgo (qeM M) (j + 1) x := by
        show (qeM M t).bind (qgo (qeM M) (j + 1)) = _
        rw [e]
        rfl
      rw [e9]
    · rw [if_neg hs, if_neg (by decide)]
      refine ⟨fun e => absurd e (by decide), fun ⟨y, hy⟩ => ?_⟩
      obtain ⟨u, h1, _⟩ := qgo_one hy
      rw [qe_nb hs] at h1
      cases h1
/-- a way of more tasks than there are has no end -/
theorem q_inf {e : Nat → Option Nat} {n k m y : Nat} (hlt : ∀ x z, e x = some z → x < n) (hm : n + 1 ≤ m) (h : qgo e m k = some y) : ∀ m', ∃ z, qgo e m' k = some z := by
  have hp : ∀ i, i ≤ m → ∃ u, qgo e i k = some u := fun i hi => by
    obtain ⟨u, h1, _⟩ := qgo_pre (a := i) (b := m - i) (by rw [show i + (m - i) = m by omega]; exact h)
    exact ⟨u, h1⟩
  have hl : ∀ i, i < m → ∃ u, qgo e i k = some u ∧ u < n := fun i hi => by
    obtain ⟨z, hz⟩ := hp (i + 1) (by omega)
    obtain ⟨u, h1, h2⟩ := qgo_lst hz
    exact ⟨u, h1, hlt u z h2⟩
  obtain ⟨i, j, hij, hj, hf⟩ := fb_twice (m := n) (n := n + 1) (f := fun i => (qgo e i k).getD 0) (fun i hi => by
    obtain ⟨u, hu, hn⟩ := hl i (by omega)
    show (qgo e i k).getD 0 < n
    rw [hu]
    exact hn) (by omega)
  obtain ⟨u, hu, _⟩ := hl i (by omega)
  obtain ⟨v, hv, _⟩ := hl j (by omega)
  have huv : u = v := by
    have h9 : (qgo e i k).getD 0 = (qgo e j k).getD 0 := hf
    rw [hu, hv] at h9
    exact h9
  subst huv
  intro m'
  induction m' using Nat.strongRecOn with
  | ind m' ih =>
    by_cases c : m' ≤ j
    · exact hp m' (by omega)
    · obtain ⟨z, hz⟩ := ih (i + (m' - j)) (by omega)
      refine ⟨z, ?_⟩
      rw [qgo_add, hu] at hz
      rw [show m' = j + (m' - j) by omega, qgo_add, hv]
      exact hz
theorem q_long {e : Nat → Option Nat} {n k a b : Nat} (hlt : ∀ x z, e x = some z → x < n) (ha : n + 1 ≤ a) (hb : n + 1 ≤ b) : (∃ y, qgo e a k = some y) ↔ ∃ y, qgo e b k = some y :=
  ⟨fun ⟨_, h⟩ => q_inf hlt ha h b, fun ⟨_, h⟩ => q_inf hlt hb h a⟩
theorem fold_bits {b : Nat → Int32 → Int32} {c : Nat → Prop} (N : Nat) (hN : N ≤ 32) (h : ∀ k s i, k < N → i < 32 → (bt (b k s) i = true ↔ bt s i = true ∨ (i = k ∧ c k))) : ∀ i, i < 32 → (bt ((List.range N).foldl (fun s k => b k s) 0) i = true ↔ i < N ∧ c i) := by
  refine q_fold (P := fun m s => ∀ i, i < 32 → (bt s i = true ↔ i < m ∧ c i)) b N (fun i hi => ?_) (fun k s hk hs i hi => ?_)
  · rw [b_0]
    exact ⟨fun e => absurd e (by decide), fun e => absurd e.1 (Nat.not_lt_zero i)⟩
  · rw [h k s i hk hi, hs i hi]
    constructor
    · rintro (⟨a, b⟩ | ⟨a, b⟩)
      · exact ⟨by omega, b⟩
      · rw [a]; exact ⟨by omega, b⟩
    · rintro ⟨a, b⟩
      by_cases e : i = k
      · exact Or.inr ⟨e, by rw [← e]; exact b⟩
      · exact Or.inl ⟨by omega, b⟩
theorem bit_if {c : Prop} [Decidable c] {s : Int32} {k i : Nat} (hk : k < 32) (hi : i < 32) : bt (s ||| (if c then (1 : Int32) <<< (nI k &&& 31) else 0)) i = true ↔ bt s i = true ∨ (i = k ∧ c) := by
  by_cases h : c
  · rw [if_pos h, q_or s hk hi, Bool.or_eq_true, decide_eq_true_eq]
    exact ⟨fun e => e.elim Or.inl (fun e => Or.inr ⟨e, h⟩), fun e => e.elim Or.inl (fun e => Or.inr e.1)⟩
  · rw [if_neg h, Int32.or_zero]
    exact ⟨Or.inl, fun e => e.elim id (fun e => absurd e.2 h)⟩
theorem bit_if2 {c : Prop} [Decidable c] {s : Int32} {k i : Nat} (hk : k < 32) (hi : i < 32) : bt (if c then s ||| ((1 : Int32) <<< (nI k &&& 31)) else s) i = true ↔ bt s i = true ∨ (i = k ∧ c) := by
  by_cases h : c
  · rw [if_pos h, q_or s hk hi, Bool.or_eq_true, decide_eq_true_eq]
    exact ⟨fun e => e.elim Or.inl (fun e => Or.inr ⟨e, h⟩), fun e => e.elim Or.inl (fun e => Or.inr e.1)⟩
  · rw [if_neg h]
    exact ⟨Or.inl, fun e => e.elim id (fun e => absurd e.2 h)⟩
theorem stuck_eq {n K : Nat} {C M : zSg} (h : zI n K C M) : cF_stuck C = mF_stuck M := by
  have hn := zI_n h
  have hlt : ∀ x z, qeM M x = some z → x < n := fun x z hx => by
    unfold qeM at hx
    split at hx
    · rename_i h4
      rw [zI_ix h] at h4
      exact h4.1
    · cases hx
  refine b_ext fun i hi => bt_iff ?_
  have e1 := fold_bits (b := fun k s => cB_stuck C k s) (c := fun k => cF_isStuck C k = true) 16 (by decide) (fun k s i hk hi => by
    show bt (if cF_isStuck C k = true then s ||| ((1 : Int32) <<< (C (ztk k) 0 &&& 31)) else s) i = true ↔ _
    rw [zI_U h hk]
    exact bit_if2 (by omega) hi) i hi
  have e2 := fold_bits (b := fun k s => mB_stuck M k s) (c := fun k => M 41 (ix (mF_chase M (ix (M 0 15) + 1) (nI k))) = 4) (ix (M 0 15)) (by rw [zI_ix h]; omega) (fun k s i hk hi => by
    rw [zI_ix h] at hk
    exact bit_if (by omega) hi) i hi
  show bt ((List.range 16).foldl (fun s k => cB_stuck C k s) 0) i = true ↔ bt ((List.range (ix (M 0 15))).foldl (fun s k => mB_stuck M k s) 0) i = true
  rw [e1, e2, zI_ix h]
  constructor
  · rintro ⟨a, b⟩
    have b1 := (chaseC h 16 i a).mp b
    obtain ⟨y, hy⟩ := b1
    obtain ⟨u, h1, _⟩ := qgo_one hy
    have hin := hlt i u h1
    refine ⟨hin, (chaseM h (n + 1) i a).mpr ?_⟩
    exact (q_long hlt (by omega) (by omega)).mp ⟨y, hy⟩
  · rintro ⟨a, b⟩
    refine ⟨by omega, (chaseC h 16 i (by omega)).mpr ?_⟩
    exact (q_long hlt (by omega) (by omega)).mp ((chaseM h (n + 1) i (by omega)).mp b)
theorem those_eq {n K q : Nat} {C M : zSg} {its : Int32} (h : zI n K C M) (hs : its = 4 ∨ its = 5) (hq : q < 6) : cF_wt C its (nI q) = mF_those M its (nI q) := by
  have hn := zI_n h
  have hne : ¬ (0 : Int32) = its := by rcases hs with e | e <;> rw [e] <;> decide
  refine b_ext fun i hi => bt_iff ?_
  have e1 := fold_bits (b := fun k s => cB_wt C its (nI q) k s) (c := fun k => cF_waitsAt C k its (nI q) = true) 16 (by decide) (fun k s i hk hi => by
    show bt (if cF_waitsAt C k its (nI q) = true then s ||| ((1 : Int32) <<< (C (ztk k) 0 &&& 31)) else s) i = true ↔ _
    rw [zI_U h hk]
    exact bit_if2 (by omega) hi) i hi
  have e2 := fold_bits (b := fun k s => mB_those M its (nI q) k s) (c := fun k => M 41 k = its ∧ M 49 k = nI q) (ix (M 0 15)) (by rw [zI_ix h]; omega) (fun k s i hk hi => by
    rw [zI_ix h] at hk
    show bt (s ||| (if M 41 k = its then (if M 49 k = nI q then (1 : Int32) <<< (nI k &&& 31) else 0) else 0)) i = true ↔ _
    by_cases c1 : M 41 k = its
    · rw [if_pos c1, bit_if (by omega) hi]
      exact ⟨fun e => e.elim Or.inl (fun e => Or.inr ⟨e.1, c1, e.2⟩), fun e => e.elim Or.inl (fun e => Or.inr ⟨e.1, e.2.2⟩)⟩
    · rw [if_neg c1, Int32.or_zero]
      exact ⟨Or.inl, fun e => e.elim id (fun e => absurd e.2.1 c1)⟩) i hi
  show bt ((List.range 16).foldl (fun s k => cB_wt C its (nI q) k s) 0) i = true ↔ bt ((List.range (ix (M 0 15))).foldl (fun s k => mB_those M its (nI q) k s) 0) i = true
  rw [e1, e2, zI_ix h]
  have wa : ∀ k, k < 16 → (cF_waitsAt C k its (nI q) = true ↔ M 41 k = its ∧ C (ztk k) 13 = nI q) := fun k hk => by
    unfold cF_waitsAt
    rw [zI_st h hk]
    by_cases c1 : M 41 k = its
    · rw [if_pos c1]
      by_cases c2 : C (ztk k) 13 = nI q
      · rw [if_pos c2]; exact ⟨fun _ => ⟨c1, c2⟩, fun _ => rfl⟩
      · rw [if_neg c2]; exact ⟨fun e => absurd e (by decide), fun e => absurd e.2 c2⟩
    · rw [if_neg c1]; exact ⟨fun e => absurd e (by decide), fun e => absurd e.1 c1⟩
  constructor
  · rintro ⟨a, b⟩
    obtain ⟨b1, b2⟩ := (wa i a).mp b
    have hin : i < n := zI_lt h a (fun e => hne (e.symm.trans b1))
    have hw := ((zI_T h hin).2.2.2.1 (by rw [b1]; exact hs)).1
    exact ⟨hin, b1, by rw [← hw]; exact b2⟩
  · rintro ⟨a, b1, b2⟩
    have hw := ((zI_T h a).2.2.2.1 (by rw [b1]; exact hs)).1
    exact ⟨by omega, (wa i (by omega)).mpr ⟨b1, by rw [hw]; exact b2⟩⟩
