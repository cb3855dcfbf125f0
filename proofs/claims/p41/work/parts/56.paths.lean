/-! Bits, drawers, counts: pasted from the kit's laws (BITS, COUNTS) -/
def bt (x : Int32) (i : Nat) : Bool := x.toBitVec.getLsbD i
theorem b_ext {x y : Int32} (h : ∀ i, i < 32 → bt x i = bt y i) : x = y := Int32.toBitVec_inj.mp (BitVec.eq_of_getLsbD_eq (fun i hi => h i hi))
theorem b_or (x y : Int32) (i : Nat) : bt (x ||| y) i = (bt x i || bt y i) := by unfold bt; rw [Int32.toBitVec_or, BitVec.getLsbD_or]
theorem b_and (x y : Int32) (i : Nat) : bt (x &&& y) i = (bt x i && bt y i) := by unfold bt; rw [Int32.toBitVec_and, BitVec.getLsbD_and]
theorem b_xor (x y : Int32) (i : Nat) : bt (x ^^^ y) i = (bt x i ^^ bt y i) := by unfold bt; rw [Int32.toBitVec_xor, BitVec.getLsbD_xor]
theorem b_big {x : Int32} {i : Nat} (h : 32 ≤ i) : bt x i = false := BitVec.getLsbD_of_ge _ _ h
theorem b_m1 : ∀ i, i < 32 → bt (-1) i = true := by decide +kernel
theorem b_0 (i : Nat) : bt 0 i = false := BitVec.getLsbD_zero
theorem s_l : ∀ n, n < 32 → ((nI n &&& 31).toBitVec.smod 32).toNat = n := by decide +kernel
theorem s_u : ∀ n, n < 32 → (((nI n).toUInt32 &&& Int32.toUInt32 31).toBitVec % 32).toNat = n := by decide +kernel
theorem b_shl (n : Nat) (hn : n < 32) (x : Int32) {i : Nat} (hi : i < 32) : bt (x <<< (nI n &&& 31)) i = (decide (n ≤ i) && bt x (i - n)) := by
  unfold bt
  rw [Int32.toBitVec_shiftLeft]
  show (x.toBitVec <<< ((nI n &&& 31).toBitVec.smod 32).toNat).getLsbD i = _
  rw [s_l n hn, BitVec.getLsbD_shiftLeft]
  rcases Nat.lt_or_ge i n with h | h
  · simp [h, Nat.not_le.mpr h]
  · simp [hi, h, Nat.not_lt.mpr h]
theorem b_ushr (n : Nat) (hn : n < 32) (x : Int32) (i : Nat) : bt ((x.toUInt32 >>> ((nI n).toUInt32 &&& Int32.toUInt32 31)).toInt32) i = bt x (n + i) := by
  show (x.toUInt32 >>> ((nI n).toUInt32 &&& Int32.toUInt32 31)).toBitVec.getLsbD i = x.toUInt32.toBitVec.getLsbD (n + i)
  rw [UInt32.toBitVec_shiftRight]
  show (x.toUInt32.toBitVec >>> (((nI n).toUInt32 &&& Int32.toUInt32 31).toBitVec % 32).toNat).getLsbD i = _
  rw [s_u n hn, BitVec.getLsbD_ushiftRight]
theorem b_sshr (n : Nat) (hn : n < 32) (x : Int32) {i : Nat} (hi : i < 32) : bt (x >>> (nI n &&& 31)) i = if n + i < 32 then bt x (n + i) else bt x 31 := by
  unfold bt
  rw [Int32.toBitVec_shiftRight]
  show (x.toBitVec.sshiftRight ((nI n &&& 31).toBitVec.smod 32).toNat).getLsbD i = _
  rw [s_l n hn, BitVec.getLsbD_sshiftRight, BitVec.msb_eq_getLsbD_last]
  simp [hi]
/-! ===== drawers: more things than places ===== -/
theorem fb_holes : ∀ (m n : Nat) (f : Nat → Nat), (∀ i, i < n → f i < m) → (∀ i j, i < j → j < n → f i ≠ f j) → n ≤ m := by
  intro m
  induction m with
  | zero =>
    intro n f h1 _
    rcases Nat.eq_zero_or_pos n with h | h
    · omega
    · exact absurd (h1 0 h) (Nat.not_lt_zero _)
  | succ m ih =>
    intro n f h1 h2
    by_cases hx : ∃ i, i < n ∧ f i = m
    · obtain ⟨a, ha, hfa⟩ := hx
      have hg := ih (n - 1) (fun i => if i < a then f i else f (i + 1)) (by
        intro i hi
        by_cases q : i < a
        · simp only [if_pos q]
          have b1 := h1 i (by omega)
          have b2 := h2 i a q ha
          omega
        · simp only [if_neg q]
          have b1 := h1 (i + 1) (by omega)
          have b2 := h2 a (i + 1) (by omega) (by omega)
          omega) (by
        intro i j hij hj
        by_cases q : i < a
        · by_cases r : j < a
          · simp only [if_pos q, if_pos r]
            exact h2 i j hij (by omega)
          · simp only [if_pos q, if_neg r]
            exact h2 i (j + 1) (by omega) (by omega)
        · have r : ¬ j < a := by omega
          simp only [if_neg q, if_neg r]
          exact h2 (i + 1) (j + 1) (by omega) (by omega))
      omega
    · have hg := ih n f (fun i hi => by
        have b1 := h1 i hi
        have b2 : f i ≠ m := fun e => hx ⟨i, hi, e⟩
        omega) h2
      omega
/-- two of them in one place -/
theorem fb_twice {m n : Nat} {f : Nat → Nat} (h : ∀ i, i < n → f i < m) (hm : m < n) : ∃ i j, i < j ∧ j < n ∧ f i = f j := by
  refine Classical.byContradiction fun hx => ?_
  have := fb_holes m n f h (fun i j hij hj e => hx ⟨i, j, hij, hj, e⟩)
  omega
/-- as many as places, none twice: each place is taken -/
theorem fb_onto {n : Nat} {f : Nat → Nat} (h : ∀ i, i < n → f i < n) (h2 : ∀ i j, i < j → j < n → f i ≠ f j) {y : Nat} (hy : y < n) : ∃ i, i < n ∧ f i = y := by
  refine Classical.byContradiction fun hx => ?_
  have hne : ∀ i, i < n → f i ≠ y := fun i hi e => hx ⟨i, hi, e⟩
  have := fb_holes (n - 1) n (fun i => if f i < y then f i else f i - 1) (by
    intro i hi
    have b1 := h i hi
    have b2 := hne i hi
    by_cases q : f i < y
    · simp only [if_pos q]; omega
    · simp only [if_neg q]; omega) (by
    intro i j hij hj
    have b1 := hne i (by omega)
    have b2 := hne j hj
    have b3 := h2 i j hij hj
    by_cases q : f i < y
    · by_cases r : f j < y
      · simp only [if_pos q, if_pos r]; exact b3
      · simp only [if_pos q, if_neg r]; omega
    · by_cases r : f j < y
      · simp only [if_neg q, if_pos r]; omega
      · simp only [if_neg q, if_neg r]; omega)
  omega
/-! ===== how many places have a property ===== -/
def fb_ct (p : Nat → Bool) : Nat → Nat
  | 0 => 0
  | n + 1 => fb_ct p n + (if p n then 1 else 0)
theorem fb_ct_succ (p : Nat → Bool) (n : Nat) : fb_ct p (n + 1) = fb_ct p n + (if p n then 1 else 0) := rfl
theorem fb_ct_le (p : Nat → Bool) : ∀ n, fb_ct p n ≤ n
  | 0 => Nat.le_refl _
  | n + 1 => by
    have h := fb_ct_le p n
    rw [fb_ct_succ]
    split <;> omega
theorem fb_ct_step (p : Nat → Bool) (m : Nat) : ∀ n, fb_ct p m ≤ fb_ct p (m + n)
  | 0 => Nat.le_refl _
  | n + 1 => by
    have h := fb_ct_step p m n
    show fb_ct p m ≤ fb_ct p (m + n + 1)
    rw [fb_ct_succ]
    omega
theorem fb_ct_mono (p : Nat → Bool) {m n : Nat} (h : m ≤ n) : fb_ct p m ≤ fb_ct p n := by
  have := fb_ct_step p m (n - m)
  rwa [Nat.add_sub_cancel' h] at this
theorem fb_ct_cong {p q : Nat → Bool} : ∀ {n : Nat}, (∀ k, k < n → p k = q k) → fb_ct p n = fb_ct q n
  | 0, _ => rfl
  | n + 1, h => by
    rw [fb_ct_succ, fb_ct_succ, fb_ct_cong (fun k hk => h k (by omega)), h n (by omega)]
/-- one place changed -/
theorem fb_ct_out (p : Nat → Bool) (b : Bool) {i n : Nat} (h : n ≤ i) : fb_ct (fun k => if k = i then b else p k) n = fb_ct p n :=
  fb_ct_cong fun k hk => if_neg (by omega)
theorem fb_ct_upd (p : Nat → Bool) (b : Bool) {i : Nat} : ∀ {n : Nat}, i < n → fb_ct (fun k => if k = i then b else p k) n + (if p i then 1 else 0) = fb_ct p n + (if b then 1 else 0)
  | 0, h => absurd h (Nat.not_lt_zero i)
  | n + 1, h => by
    rw [fb_ct_succ, fb_ct_succ]
    rcases Nat.lt_or_ge i n with q | q
    · have := fb_ct_upd p b q
      have e : (if n = i then b else p n) = p n := if_neg (by omega)
      rw [e]
      omega
    · have e : i = n := by omega
      subst e
      rw [fb_ct_out p b (Nat.le_refl _)]
      simp only [if_true]
      omega
theorem fb_ct_sub {p q : Nat → Bool} : ∀ {n : Nat}, (∀ k, k < n → p k = true → q k = true) → fb_ct p n ≤ fb_ct q n
  | 0, _ => Nat.le_refl _
  | n + 1, h => by
    have h1 := fb_ct_sub (n := n) (p := p) (q := q) (fun k hk => h k (by omega))
    have h2 := h n (by omega)
    rw [fb_ct_succ, fb_ct_succ]
    cases hp : p n <;> cases hq : q n <;> simp_all <;> omega
theorem fb_ct_or {p q : Nat → Bool} : ∀ {n : Nat}, (∀ k, k < n → ¬ (p k = true ∧ q k = true)) → fb_ct (fun k => p k || q k) n = fb_ct p n + fb_ct q n
  | 0, _ => rfl
  | n + 1, h => by
    have h1 := fb_ct_or (n := n) (p := p) (q := q) (fun k hk => h k (by omega))
    have h2 := h n (by omega)
    rw [fb_ct_succ, fb_ct_succ, fb_ct_succ, h1]
    cases hp : p n <;> cases hq : q n <;> simp_all <;> omega
theorem fb_ct_not (p : Nat → Bool) : ∀ n, fb_ct p n + fb_ct (fun k => !p k) n = n
  | 0 => rfl
  | n + 1 => by
    have h := fb_ct_not p n
    rw [fb_ct_succ, fb_ct_succ]
    cases p n <;> simp <;> omega
theorem fb_ct_split (p : Nat → Bool) (m : Nat) : ∀ n, fb_ct p (m + n) = fb_ct p m + fb_ct (fun k => p (m + k)) n
  | 0 => rfl
  | n + 1 => by
    have h := fb_ct_split p m n
    show fb_ct p (m + n + 1) = _
    rw [fb_ct_succ, fb_ct_succ, h, Nat.add_assoc]
theorem fb_ct_zero {p : Nat → Bool} : ∀ {n : Nat}, fb_ct p n = 0 ↔ ∀ k, k < n → p k = false
  | 0 => ⟨fun _ k hk => absurd hk (Nat.not_lt_zero k), fun _ => rfl⟩
  | n + 1 => by
    have h := fb_ct_zero (p := p) (n := n)
    rw [fb_ct_succ]
    constructor
    · intro e k hk
      have e1 : fb_ct p n = 0 := by omega
      rcases Nat.lt_or_ge k n with q | q
      · exact h.mp e1 k q
      · have ek : k = n := by omega
        subst ek
        cases hp : p k
        · rfl
        · simp [hp] at e
    · intro a
      rw [h.mpr (fun k hk => a k (by omega)), a n (by omega)]
      rfl
theorem fb_ct_pos {p : Nat → Bool} {n : Nat} : 0 < fb_ct p n ↔ ∃ k, k < n ∧ p k = true := by
  constructor
  · intro h
    refine Classical.byContradiction fun hx => ?_
    have := fb_ct_zero.mpr (fun k hk => by
      cases hp : p k
      · rfl
      · exact absurd ⟨k, hk, hp⟩ hx : ∀ k, k < n → p k = false)
    omega
  · rintro ⟨k, hk, hp⟩
    rcases Nat.eq_zero_or_pos (fb_ct p n) with e | e
    · have := fb_ct_zero.mp e k hk
      rw [this] at hp
      cases hp
    · exact e
theorem fb_ct_all {p : Nat → Bool} {n : Nat} : fb_ct p n = n ↔ ∀ k, k < n → p k = true := by
  have h := fb_ct_not p n
  constructor
  · intro e k hk
    have z : fb_ct (fun k => !p k) n = 0 := by omega
    have := fb_ct_zero.mp z k hk
    cases hp : p k
    · simp [hp] at this
    · rfl
  · intro a
    have z : fb_ct (fun k => !p k) n = 0 := fb_ct_zero.mpr (fun k hk => by simp [a k hk])
    omega
/-- the k-th place with the property -/
theorem fb_ct_kth {p : Nat → Bool} {k : Nat} : ∀ {n : Nat}, k < fb_ct p n → ∃ i, i < n ∧ p i = true ∧ fb_ct p i = k
  | 0, h => absurd h (Nat.not_lt_zero k)
  | n + 1, h => by
    rcases Nat.lt_or_ge k (fb_ct p n) with q | q
    · obtain ⟨i, h1, h2⟩ := fb_ct_kth q
      exact ⟨i, by omega, h2⟩
    · rw [fb_ct_succ] at h
      cases hp : p n
      · simp [hp] at h; omega
      · simp [hp] at h
        exact ⟨n, by omega, hp, by omega⟩
theorem fb_ct_kth_one {p : Nat → Bool} {i j : Nat} (hi : p i = true) (hj : p j = true) (e : fb_ct p i = fb_ct p j) : i = j := by
  have key : ∀ a b : Nat, a < b → p a = true → fb_ct p a < fb_ct p b := by
    intro a b hab ha
    have h := fb_ct_mono p (show a + 1 ≤ b from hab)
    rw [fb_ct_succ, ha] at h
    simp at h
    omega
  rcases Nat.lt_trichotomy i j with q | q | q
  · have := key i j q hi; omega
  · exact q
  · have := key j i q hj; omega
/-! Bits of sets, folds -/
theorem q_b1 : ∀ i, i < 32 → bt 1 i = decide (i = 0) := by decide +kernel
theorem q_sh {k : Nat} (hk : k < 32) {i : Nat} (hi : i < 32) : bt ((1 : Int32) <<< (nI k &&& 31)) i = decide (i = k) := by
  rw [b_shl k hk 1 hi]
  by_cases h : k ≤ i
  · rw [q_b1 (i - k) (by omega), decide_eq_true h, Bool.true_and]
    exact decide_eq_decide.mpr (by omega)
  · rw [decide_eq_false h, Bool.false_and, decide_eq_false (by omega)]
theorem q_tst (s : Int32) {k : Nat} (hk : k < 32) : ((s >>> (nI k &&& 31)) &&& 1 = 0) ↔ bt s k = false := by
  have h0 : bt (s >>> (nI k &&& 31)) 0 = bt s k := by
    rw [b_sshr k hk s (by decide), if_pos (by omega), Nat.add_zero]
  constructor
  · intro h
    have h1 := b_and (s >>> (nI k &&& 31)) 1 0
    rw [h, b_0, h0, q_b1 0 (by decide), decide_eq_true rfl, Bool.and_true] at h1
    exact h1.symm
  · intro h
    refine b_ext fun i hi => ?_
    rw [b_and, b_0, q_b1 i hi]
    by_cases h2 : i = 0
    · subst h2
      rw [h0, h, Bool.false_and]
    · rw [decide_eq_false h2, Bool.and_false]
theorem q_tst2 (w : Int32) {k : Nat} (hk : k < 32) : (w &&& ((1 : Int32) <<< (nI k &&& 31)) = 0) ↔ bt w k = false := by
  constructor
  · intro h
    have h1 := b_and w ((1 : Int32) <<< (nI k &&& 31)) k
    rw [h, b_0, q_sh hk hk, decide_eq_true rfl, Bool.and_true] at h1
    exact h1.symm
  · intro h
    refine b_ext fun i hi => ?_
    rw [b_and, b_0, q_sh hk hi]
    by_cases h2 : i = k
    · subst h2
      rw [h, Bool.false_and]
    · rw [decide_eq_false h2, Bool.and_false]
theorem q_clr (w : Int32) {k : Nat} (hk : k < 32) {i : Nat} (hi : i < 32) : bt (w &&& (((1 : Int32) <<< (nI k &&& 31)) ^^^ (-1))) i = (bt w i && !decide (i = k)) := by
  rw [b_and, b_xor, q_sh hk hi, b_m1 i hi, Bool.xor_true]
theorem q_or (s : Int32) {k : Nat} (hk : k < 32) {i : Nat} (hi : i < 32) : bt (s ||| ((1 : Int32) <<< (nI k &&& 31))) i = (bt s i || decide (i = k)) := by
  rw [b_or, q_sh hk hi]
theorem q_or_le {s x : Int32} (h : s ||| x = x) {i : Nat} (hb : bt s i = true) : bt x i = true := by
  have := b_or s x i
  rw [h, hb] at this
  rw [this]
  rfl
/-- a fold, with what holds behind each step -/
theorem q_fold {α : Type} {P : Nat → α → Prop} (b : Nat → α → α) (n : Nat) {s : α} (h0 : P 0 s) (h : ∀ k s, k < n → P k s → P (k + 1) (b k s)) : P n ((List.range n).foldl (fun s k => b k s) s) := by
  have key : ∀ m, m ≤ n → P m ((List.range m).foldl (fun s k => b k s) s) := by
    intro m
    induction m with
    | zero => intro _; exact h0
    | succ m ih =>
      intro hm
      rw [List.range_succ, List.foldl_append]
      exact h m _ (by omega) (ih (by omega))
  exact key n (Nat.le_refl n)
/-- two folds, the first over more -/
theorem q_fold2 {α β : Type} {R : Nat → α → β → Prop} (b : Nat → α → α) (c : Nat → β → β) (N n : Nat) (hn : n ≤ N) {s : α} {t : β} (h0 : R 0 s t) (h1 : ∀ k s t, k < n → R k s t → R (k + 1) (b k s) (c k t)) (h2 : ∀ k s t, n ≤ k → k < N → R k s t → R (k + 1) (b k s) t) : R N ((List.range N).foldl (fun s k => b k s) s) ((List.range n).foldl (fun s k => c k s) t) := by
  have key1 : ∀ m, m ≤ n → R m ((List.range m).foldl (fun s k => b k s) s) ((List.range m).foldl (fun s k => c k s) t) := by
    intro m
    induction m with
    | zero => intro _; exact h0
    | succ m ih =>
      intro hm
      rw [List.range_succ, List.foldl_append, List.foldl_append]
      exact h1 m _ _ (by omega) (ih (by omega))
  have key2 : ∀ d, n + d ≤ N → R (n + d) ((List.range (n + d)).foldl (fun s k => b k s) s) ((List.range n).foldl (fun s k => c k s) t) := by
    intro d
    induction d with
    | zero => intro _; exact key1 n (Nat.le_refl n)
    | succ d ih =>
      intro hd
      rw [show n + (d + 1) = (n + d) + 1 by omega, List.range_succ, List.foldl_append]
      exact h2 (n + d) _ _ (by omega) (by omega) (ih (by omega))
  have := key2 (N - n) (by omega)
  rw [show n + (N - n) = N by omega] at this
  exact this
theorem zit_inv {α : Type} {P : α → Prop} (f : α → α) (h : ∀ s, P s → P (f s)) : ∀ (n : Nat) (s : α), P s → P (zit f n s)
  | 0, _, hs => hs
  | n + 1, s, hs => zit_inv f h n (f s) (h s hs)
/-! Who waits for whom: paths, least keys -/
def qgo (e : Nat → Option Nat) : Nat → Nat → Option Nat
  | 0, x => some x
  | m + 1, x => (e x).bind (qgo e m)
theorem qgo_add (e : Nat → Option Nat) : ∀ (a b x : Nat), qgo e (a + b) x = (qgo e a x).bind (qgo e b)
  | 0, b, x => by rw [Nat.zero_add]; rfl
  | a + 1, b, x => by
    rw [show a + 1 + b = (a + b) + 1 by omega]
    show (e x).bind (qgo e (a + b)) = ((e x).bind (qgo e a)).bind (qgo e b)
    cases e x with
    | none => rfl
    | some y => exact qgo_add e a b y
def qre (e : Nat → Option Nat) (x y : Nat) : Prop := ∃ m, qgo e m x = some y
theorem qre_r (e : Nat → Option Nat) (x : Nat) : qre e x x := ⟨0, rfl⟩
theorem qre_s {e : Nat → Option Nat} {x y z : Nat} (h : e x = some y) (h2 : qre e y z) : qre e x z := by
  obtain ⟨m, hm⟩ := h2
  refine ⟨m + 1, ?_⟩
  show (e x).bind (qgo e m) = some z
  rw [h]
  exact hm
theorem qre_t {e : Nat → Option Nat} {x y z : Nat} (h : qre e x y) (h2 : e y = some z) : qre e x z := by
  obtain ⟨m, hm⟩ := h
  refine ⟨m + 1, ?_⟩
  rw [qgo_add, hm]
  show (e y).bind (qgo e 0) = some z
  rw [h2]
  rfl
theorem qgo_pre {e : Nat → Option Nat} {a b x y : Nat} (h : qgo e (a + b) x = some y) : ∃ u, qgo e a x = some u ∧ qgo e b u = some y := by
  rw [qgo_add] at h
  cases hu : qgo e a x with
  | none => rw [hu] at h; cases h
  | some u => rw [hu] at h; exact ⟨u, rfl, h⟩
theorem qgo_one {e : Nat → Option Nat} {m x y : Nat} (h : qgo e (m + 1) x = some y) : ∃ u, e x = some u ∧ qgo e m u = some y := by
  have h2 : (e x).bind (qgo e m) = some y := h
  cases hu : e x with
  | none => rw [hu] at h2; cases h2
  | some u => rw [hu] at h2; exact ⟨u, rfl, h2⟩
theorem qgo_lst {e : Nat → Option Nat} {m x y : Nat} (h : qgo e (m + 1) x = some y) : ∃ u, qgo e m x = some u ∧ e u = some y := by
  obtain ⟨u, h1, h2⟩ := qgo_pre h
  obtain ⟨v, h3, h4⟩ := qgo_one (m := 0) h2
  cases h4
  exact ⟨u, h1, h3⟩
theorem qgo_lt {e : Nat → Option Nat} (he : ∀ x y, e x = some y → y < 16) : ∀ (m x y : Nat), x < 16 → qgo e m x = some y → y < 16
  | 0, x, y, hx, h => by cases h; exact hx
  | m + 1, x, y, hx, h => by
    obtain ⟨u, h1, h2⟩ := qgo_one h
    exact qgo_lt he m u y (he x u h1) h2
theorem q_short {e : Nat → Option Nat} (he : ∀ x y, e x = some y → y < 16) {x y : Nat} (hx : x < 16) : ∀ m, qgo e m x = some y → ∃ m', m' ≤ 15 ∧ qgo e m' x = some y := by
  intro m
  induction m using Nat.strongRecOn with
  | ind m ih =>
    intro h
    by_cases h15 : m ≤ 15
    · exact ⟨m, h15, h⟩
    · have hp : ∀ i, i ≤ m → ∃ u, qgo e i x = some u ∧ qgo e (m - i) u = some y := fun i hi => qgo_pre (by rw [show i + (m - i) = m by omega]; exact h)
      obtain ⟨i, j, hij, hj, hf⟩ := fb_twice (m := 16) (n := 17) (f := fun i => (qgo e i x).getD 0) (fun i hi => by
        obtain ⟨u, hu, _⟩ := hp i (by omega)
        show (qgo e i x).getD 0 < 16
        rw [hu]
        exact qgo_lt he i x u hx hu) (by decide)
      obtain ⟨u, hu, _⟩ := hp i (by omega)
      obtain ⟨v, hv, hv2⟩ := hp j (by omega)
      have huv : u = v := by
        have h9 : (qgo e i x).getD 0 = (qgo e j x).getD 0 := hf
        rw [hu, hv] at h9
        exact h9
      subst huv
      exact ih (i + (m - j)) (by omega) (by rw [qgo_add, hu]; exact hv2)
/-- v is the least key of those from whom a path comes to t -/
def qmn (e : Nat → Option Nat) (K : Nat → Int32) (t : Nat) (v : Int32) : Prop := (∃ k, k < 16 ∧ qre e k t ∧ K k = v) ∧ ∀ k, k < 16 → qre e k t → v.toInt ≤ (K k).toInt
theorem qmn_one {e : Nat → Option Nat} {K : Nat → Int32} {t : Nat} {v w : Int32} (h : qmn e K t v) (h2 : qmn e K t w) : v = w := by
  obtain ⟨⟨k, hk, hr, rfl⟩, hm⟩ := h
  obtain ⟨⟨k2, hk2, hr2, rfl⟩, hm2⟩ := h2
  have a := hm k2 hk2 hr2
  have b := hm2 k hk hr
  exact Int32.toInt_inj.mp (by omega)
theorem qmn_cg {e e' : Nat → Option Nat} {K K' : Nat → Int32} {t : Nat} {v : Int32} (hr : ∀ k, k < 16 → (qre e k t ↔ qre e' k t)) (hK : ∀ k, k < 16 → qre e k t → K k = K' k) (h : qmn e K t v) : qmn e' K' t v := by
  obtain ⟨⟨k, hk, h1, h2⟩, h3⟩ := h
  refine ⟨⟨k, hk, (hr k hk).mp h1, by rw [← hK k hk h1]; exact h2⟩, fun k2 hk2 h4 => ?_⟩
  have h5 := (hr k2 hk2).mpr h4
  rw [← hK k2 hk2 h5]
  exact h3 k2 hk2 h5
/-- an edge that is cut where no path goes on -/
theorem qre_cut {e e' : Nat → Option Nat} {i t : Nat} (h1 : ∀ x, e' x = e x ∨ (e' x = none ∧ e x = some i)) (h2 : e i = none) (ht : t ≠ i) (x : Nat) : qre e x t ↔ qre e' x t := by
  constructor
  · rintro ⟨m, hm⟩
    refine ⟨m, ?_⟩
    induction m generalizing x with
    | zero => exact hm
    | succ m ih =>
      obtain ⟨u, h3, h4⟩ := qgo_one hm
      rcases h1 x with h5 | ⟨_, h5⟩
      · show (e' x).bind (qgo e' m) = some t
        rw [h5, h3]
        exact ih u h4
      · rw [h3] at h5
        cases h5
        cases m with
        | zero => cases h4; exact absurd rfl ht
        | succ m =>
          obtain ⟨v, h6, _⟩ := qgo_one h4
          rw [h2] at h6
          cases h6
  · rintro ⟨m, hm⟩
    refine ⟨m, ?_⟩
    induction m generalizing x with
    | zero => exact hm
    | succ m ih =>
      obtain ⟨u, h3, h4⟩ := qgo_one hm
      rcases h1 x with h5 | ⟨h5, _⟩
      · show (e x).bind (qgo e m) = some t
        rw [← h5, h3]
        exact ih u h4
      · rw [h3] at h5
        cases h5
/-! Keys lent again and again -/
def qB (e : Nat → Option Nat) (k : Nat) (s : (Nat → Int32) × Int32) : (Nat → Int32) × Int32 := match e k with
  | none => s
  | some j => if s.1 k < s.1 j then (upd s.1 j (s.1 k), 1) else s
theorem qB_n {e : Nat → Option Nat} {k : Nat} (s : (Nat → Int32) × Int32) (h : e k = none) : qB e k s = s := by
  unfold qB
  rw [h]
theorem qB_s {e : Nat → Option Nat} {k j : Nat} (s : (Nat → Int32) × Int32) (h : e k = some j) : qB e k s = if s.1 k < s.1 j then (upd s.1 j (s.1 k), 1) else s := by
  unfold qB
  rw [h]
def qP (e : Nat → Option Nat) (L : Nat → Int32) : (Nat → Int32) × Int32 := (List.range 16).foldl (fun s k => qB e k s) (L, 0)
def qPs (e : Nat → Option Nat) : Nat → (Nat → Int32) × Int32 → (Nat → Int32)
  | 0, s => s.1
  | j + 1, s => if s.2 = 0 then s.1 else qPs e j (qP e s.1)
def qsd (e : Nat → Option Nat) (K L : Nat → Int32) : Prop := ∀ t, t < 16 → ∃ k, k < 16 ∧ qre e k t ∧ K k = L t
theorem qB_sd {e : Nat → Option Nat} {K : Nat → Int32} {k : Nat} {s : (Nat → Int32) × Int32} (hk : k < 16) (hs : qsd e K s.1) : qsd e K (qB e k s).1 := by
  cases hj : e k with
  | none => rw [qB_n s hj]; exact hs
  | some j =>
    rw [qB_s s hj]
    by_cases c : s.1 k < s.1 j
    · rw [if_pos c]
      intro t ht
      show ∃ k', k' < 16 ∧ qre e k' t ∧ K k' = upd s.1 j (s.1 k) t
      unfold upd
      by_cases e1 : t = j
      · rw [if_pos e1]
        obtain ⟨k0, h0, h1, h2⟩ := hs k hk
        exact ⟨k0, h0, by rw [e1]; exact qre_t h1 hj, h2⟩
      · rw [if_neg e1]
        exact hs t ht
    · rw [if_neg c]
      exact hs
theorem qB_le {e : Nat → Option Nat} {k : Nat} (s : (Nat → Int32) × Int32) (t : Nat) : ((qB e k s).1 t).toInt ≤ (s.1 t).toInt := by
  cases hj : e k with
  | none => rw [qB_n s hj]; exact Int.le_refl _
  | some j =>
    rw [qB_s s hj]
    by_cases c : s.1 k < s.1 j
    · rw [if_pos c]
      show (upd s.1 j (s.1 k) t).toInt ≤ _
      unfold upd
      by_cases e1 : t = j
      · rw [if_pos e1, e1]
        rw [Int32.lt_iff_toInt_lt] at c
        omega
      · rw [if_neg e1]
        exact Int.le_refl _
    · rw [if_neg c]
      exact Int.le_refl _
theorem qP_inv {e : Nat → Option Nat} {K L : Nat → Int32} (hs : qsd e K L) : qsd e K (qP e L).1 ∧ (∀ t, ((qP e L).1 t).toInt ≤ (L t).toInt) ∧ (∀ k j, k < 16 → e k = some j → ((qP e L).1 j).toInt ≤ (L k).toInt) ∧ ((qP e L).2 = 0 → (qP e L).1 = L ∧ ∀ k j, k < 16 → e k = some j → (L j).toInt ≤ (L k).toInt) := by
  refine q_fold (P := fun m s => qsd e K s.1 ∧ (∀ t, (s.1 t).toInt ≤ (L t).toInt) ∧ (∀ k j, k < m → e k = some j → (s.1 j).toInt ≤ (L k).toInt) ∧ (s.2 = 0 → s.1 = L ∧ ∀ k j, k < m → e k = some j → (L j).toInt ≤ (L k).toInt)) (qB e) 16 (s := (L, 0)) ⟨hs, fun t => Int.le_refl _, fun k j hk => absurd hk (Nat.not_lt_zero k), fun _ => ⟨rfl, fun k j hk => absurd hk (Nat.not_lt_zero k)⟩⟩ ?_
  rintro k s hk ⟨h1, h2, h3, h4⟩
  refine ⟨qB_sd hk h1, fun t => Int.le_trans (qB_le s t) (h2 t), fun k2 j hk2 hj => ?_, fun h0 => ?_⟩
  · by_cases e1 : k2 = k
    · subst e1
      rw [qB_s s hj]
      have h5 := h2 k2
      by_cases c : s.1 k2 < s.1 j
      · rw [if_pos c]
        show (upd s.1 j (s.1 k2) j).toInt ≤ _
        unfold upd
        rw [if_pos rfl]
        exact h5
      · rw [if_neg c]
        rw [Int32.lt_iff_toInt_lt] at c
        omega
    · exact Int.le_trans (qB_le s j) (h3 k2 j (by omega) hj)
  · cases hj : e k with
    | none =>
      rw [qB_n s hj] at h0 ⊢
      obtain ⟨g1, g2⟩ := h4 h0
      refine ⟨g1, fun k2 j2 hk2 hj2 => ?_⟩
      by_cases e1 : k2 = k
      · subst e1
        rw [hj] at hj2
        cases hj2
      · exact g2 k2 j2 (by omega) hj2
    | some j =>
      rw [qB_s s hj] at h0 ⊢
      by_cases c : s.1 k < s.1 j
      · rw [if_pos c] at h0
        exact absurd h0 (show ¬ (1 : Int32) = 0 by decide)
      · rw [if_neg c] at h0 ⊢
        obtain ⟨g1, g2⟩ := h4 h0
        refine ⟨g1, fun k2 j2 hk2 hj2 => ?_⟩
        by_cases e1 : k2 = k
        · subst e1
          rw [hj] at hj2
          cases hj2
          rw [g1, Int32.lt_iff_toInt_lt] at c
          omega
        · exact g2 k2 j2 (by omega) hj2
theorem qfx {e : Nat → Option Nat} {L : Nat → Int32} (he : ∀ x y, e x = some y → y < 16) (h : ∀ k j, k < 16 → e k = some j → (L j).toInt ≤ (L k).toInt) : ∀ (i k t : Nat), k < 16 → qgo e i k = some t → (L t).toInt ≤ (L k).toInt
  | 0, k, t, _, hi => by cases hi; exact Int.le_refl _
  | i + 1, k, t, hk, hi => by
    obtain ⟨u, h1, h2⟩ := qgo_one hi
    have h3 := qfx he h i u t (he k u h1) h2
    have h4 := h k u hk h1
    omega
theorem qPs_mn {e : Nat → Option Nat} {K : Nat → Int32} (he : ∀ x y, e x = some y → y < 16) : ∀ (j m : Nat) (s : (Nat → Int32) × Int32), m + j = 16 → qsd e K s.1 → (∀ i k t, i ≤ m → k < 16 → qgo e i k = some t → (s.1 t).toInt ≤ (K k).toInt) → (s.2 = 0 → ∀ k j, k < 16 → e k = some j → (s.1 j).toInt ≤ (s.1 k).toInt) → ∀ t, t < 16 → qmn e K t (qPs e j s t) := by
  intro j
  induction j with
  | zero =>
    intro m s hm hsd hp hz t ht
    refine ⟨hsd t ht, fun k hk hr => ?_⟩
    obtain ⟨i, hi⟩ := hr
    obtain ⟨i2, h15, hi2⟩ := q_short he hk i hi
    exact hp i2 k t (by omega) hk hi2
  | succ j ih =>
    intro m s hm hsd hp hz t ht
    have h00 : ∀ k, k < 16 → (s.1 k).toInt ≤ (K k).toInt := fun k hk => hp 0 k k (Nat.zero_le _) hk rfl
    by_cases h0 : s.2 = 0
    · have e1 : qPs e (j + 1) s = s.1 := if_pos h0
      rw [e1]
      refine ⟨hsd t ht, fun k hk hr => ?_⟩
      obtain ⟨i, hi⟩ := hr
      have h1 := qfx he (hz h0) i k t hk hi
      have h2 := h00 k hk
      omega
    · have e1 : qPs e (j + 1) s = qPs e j (qP e s.1) := if_neg h0
      rw [e1]
      obtain ⟨g1, g2, g3, g4⟩ := qP_inv hsd
      refine ih (m + 1) (qP e s.1) (by omega) g1 (fun i k t2 hi hk hgo => ?_) (fun hf k2 j2 hk2 hj2 => ?_) t ht
      · cases i with
        | zero =>
          cases hgo
          have h1 := g2 k
          have h2 := h00 k hk
          omega
        | succ i =>
          obtain ⟨u, h1, h2⟩ := qgo_lst hgo
          have h3 := g3 u t2 (qgo_lt he i k u hk h1) h2
          have h4 := hp i k u (by omega) hk h1
          omega
      · obtain ⟨g5, g6⟩ := g4 hf
        rw [g5]
        exact g6 k2 j2 hk2 hj2
theorem qPs_all {e : Nat → Option Nat} {K : Nat → Int32} (he : ∀ x y, e x = some y → y < 16) {t : Nat} (ht : t < 16) : qmn e K t (qPs e 16 (K, 1) t) :=
  qPs_mn he 16 0 (K, 1) rfl (fun t ht => ⟨t, ht, qre_r e t, rfl⟩) (fun i k t hi hk h => by
    cases i with
    | zero => cases h; exact Int.le_refl _
    | succ i => omega) (fun h => absurd h (show ¬ (1 : Int32) = 0 by decide)) t ht
