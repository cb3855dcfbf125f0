/-! The relation: turns that end -/
theorem z3way {x : Int32} (h : zr1 x 0 2) : x = 0 ∨ x = 1 ∨ x = 2 := by
  have h1 := h.1
  have h2 := h.2
  have : x.toInt = 0 ∨ x.toInt = 1 ∨ x.toInt = 2 := by omega
  rcases this with e | e | e
  · exact Or.inl (Int32.toInt_inj.mp e)
  · exact Or.inr (Or.inl (Int32.toInt_inj.mp e))
  · exact Or.inr (Or.inr (Int32.toInt_inj.mp e))
theorem zI_offr {n K u p : Nat} {C M : zSg} (h : zI n K C M) (hu : u < n) (hp : p < 3) (hup : M 68 p = nI u) : zI n K (cF_ready (zup C 12 p (-1)) u) (mF_ready (zup M 68 p (-1)) (nI u)) := by
  have hn := zI_n h
  have h1 := zI_off h hu hp hup
  have e1 : mF_ready (zup M 68 p (-1)) (nI u) = zup (zup (zup (zup M 68 p (-1)) 41 u 1) 45 u (M 0 9)) 0 9 (M 0 9 + 1) := by
    unfold mF_ready
    rw [zix (by omega)]
    rfl
  have e2 : cF_ready (zup C 12 p (-1)) u = zup (zup (zup (zup C 12 p (-1)) (ztk u) 5 1) (ztk u) 9 (M 0 9)) 0 11 (M 0 9 + 1) := by
    unfold cF_ready
    dsimp only
    have g : zup (zup C 12 p (-1)) (ztk u) 5 1 0 11 = M 0 9 := by
      rw [zup_b (by decide), zup_a (by decide), ze_ns (zI_E h)]
    rw [zup_b (k := 9) (j := 11) (by decide), g]
  rw [e1, e2]
  exact zI_pl (zI_pl h1 (f := 45) (j := u) (by unfold zdm; omega) rfl (by omega) rfl (zr_any _) rfl ⟨fun _ => (by rw [zup_at]; decide), fun e => by exfalso; omega, fun t ht9 e => by omega⟩) (f := 0) (j := 9) (by unfold zdm; omega) rfl (by omega) rfl (zr_any _) rfl ⟨fun e => by omega, fun e => by exfalso; omega, fun t ht9 e => by omega⟩
theorem zlv_up {x : Int32} (h : zr1 x 0 3) : (if x < 3 then x + 1 else x) = (if x + 1 < 3 then x + 1 else 3) := by
  have h1 := h.1
  have h2 := h.2
  have e : (x + 1).toInt = x.toInt + 1 := fb_addI (y := 1) (by rw [show (1 : Int32).toInt = 1 from rfl]; omega) (by rw [show (1 : Int32).toInt = 1 from rfl]; omega)
  have t3 : (3 : Int32).toInt = 3 := rfl
  by_cases c : x < 3
  · rw [if_pos c]
    rw [Int32.lt_iff_toInt_lt, t3] at c
    by_cases c2 : x + 1 < 3
    · rw [if_pos c2]
    · rw [if_neg c2]
      rw [Int32.lt_iff_toInt_lt, t3, e] at c2
      exact Int32.toInt_inj.mp (by rw [e, t3]; omega)
  · rw [if_neg c]
    rw [Int32.lt_iff_toInt_lt, t3] at c
    rw [if_neg (by rw [Int32.lt_iff_toInt_lt, t3, e]; omega)]
    exact Int32.toInt_inj.mp (by rw [t3]; omega)
theorem zI_turn {n K p : Nat} {C M : zSg} (h : zI n K C M) (hp : p < 3) : zI n K (cB_turn p C) (mB_expire p M) := by
  have hn := zI_n h
  unfold cB_turn mB_expire
  rw [ze_on (zI_E h) hp]
  by_cases c : M 68 p = -1
  · rw [if_pos c, c]
    exact h
  · rw [if_neg c]
    obtain ⟨u, hu, eu, h2⟩ := zI_run h hp c
    rw [eu, cF_at_nI (by omega), zix (by omega)]
    show zI n K (if cF_endsTurn C (C (ztk u) 10) (C (ztk u) 12) = true then (if cF_ready (zup C 12 p (-1)) u 1 1 = 1 then (if cF_ready (zup C 12 p (-1)) u (ztk u) 10 < 3 then zup (cF_ready (zup C 12 p (-1)) u) (ztk u) 10 (cF_ready (zup C 12 p (-1)) u (ztk u) 10 + 1) else cF_ready (zup C 12 p (-1)) u) else cF_ready (zup C 12 p (-1)) u) else C) _
    have hr := zI_offr h hu hp eu
    have w1 : cF_ready (zup C 12 p (-1)) u 1 1 = M 0 2 := (ze_way (zI_E hr)).trans rfl
    have w2 : cF_ready (zup C 12 p (-1)) u (ztk u) 10 = M 46 u := by
      rw [ze_lev (zI_E hr) (by omega)]
      unfold mF_ready
      rw [zix (by omega)]
      rfl
    have ee : cF_endsTurn C (C (ztk u) 10) (C (ztk u) 12) = if M 0 2 = 0 then (if M 69 p < M 0 3 then false else true) else if M 0 2 = 1 then (if M 69 p < M 0 3 <<< (M 46 u &&& 31) then false else true) else false := by
      unfold cF_endsTurn
      rw [ze_way (zI_E h), ze_qu (zI_E h), ze_lev (zI_E h) (by omega), zI_D h p u hp hu eu]
    rw [w1, w2, ee]
    rcases z3way (zI_W h 0 2) with w | w | w
    · rw [w, if_neg (c := (0 : Int32) = 2) (by decide), if_pos (c := (0 : Int32) = 0) rfl, if_pos (c := (0 : Int32) = 0) rfl, if_neg (c := (0 : Int32) = 1) (by decide)]
      by_cases d : M 69 p < M 0 3
      · rw [if_pos d, if_pos d, if_neg (by decide)]
        exact h
      · rw [if_neg d, if_neg d, if_pos rfl]
        exact hr
    · rw [w, if_neg (c := (1 : Int32) = 2) (by decide), if_neg (c := (1 : Int32) = 0) (by decide), if_neg (c := (1 : Int32) = 0) (by decide), if_pos (c := (1 : Int32) = 1) rfl, if_pos (c := (1 : Int32) = 1) rfl]
      by_cases d : M 69 p < M 0 3 <<< (M 46 u &&& 31)
      · rw [if_pos d, if_pos d, if_neg (by decide)]
        exact h
      · rw [if_neg d, if_neg d, if_pos rfl]
        have f1 : (if M 46 u < 3 then zup (cF_ready (zup C 12 p (-1)) u) (ztk u) 10 (M 46 u + 1) else cF_ready (zup C 12 p (-1)) u) = zup (cF_ready (zup C 12 p (-1)) u) (ztk u) 10 (if M 46 u + 1 < 3 then M 46 u + 1 else 3) := by
          rw [zif_zup, w2, zlv_up (zI_W h 46 u)]
        rw [f1]
        have f2 : mF_ready (zup (zup M 46 u (if M 46 u + 1 < 3 then M 46 u + 1 else 3)) 68 p (-1)) (nI u) = zup (mF_ready (zup M 68 p (-1)) (nI u)) 46 u (if M 46 u + 1 < 3 then M 46 u + 1 else 3) := by
          generalize (if M 46 u + 1 < 3 then M 46 u + 1 else 3) = l
          unfold mF_ready
          rw [zix (by omega), zup_comm M (a := 46) (b := 68) l (-1) (by omega), zup_comm (zup M 68 p (-1)) (a := 46) (b := 41) l 1 (by omega)]
          show zup (zup (zup (zup (zup M 68 p (-1)) 41 u 1) 46 u l) 45 u (M 0 9)) 0 9 (M 0 9 + 1) = _
          rw [zup_comm (zup (zup M 68 p (-1)) 41 u 1) (a := 46) (b := 45) l _ (by omega), zup_comm _ (a := 46) (b := 0) l _ (by omega)]
          rfl
        first | rw [f2] | (dsimp only; rw [if_pos (c := (1 : Int32) = 1) rfl, f2])
        exact zI_pl hr (f := 46) (j := u) (by unfold zdm; omega) rfl (by omega) rfl (zlv2 (zI_W h) u) rfl ⟨fun e => by omega, fun _ e => absurd e (by unfold mF_ready; rw [zix (by omega)]; show ¬ (if u = u then (1 : Int32) else M 41 u) = 0; rw [if_pos rfl]; decide), fun t ht9 e => by omega⟩
    · rw [w, if_pos (c := (2 : Int32) = 2) rfl, if_neg (c := (2 : Int32) = 0) (by decide), if_neg (c := (2 : Int32) = 1) (by decide), if_neg (c := (false = true)) (by decide)]
      exact h
theorem zI_turns {n K : Nat} {C M : zSg} (h : zI n K C M) : zI n K (cF_turns C) (mF_expire M) := by
  have hP := zmW_p3 (zI_W h)
  have key : zI n K (cF_turns C) (mF_expire M) ∧ zsc M (mF_expire M) := by
    unfold cF_turns mF_expire
    refine q_fold2 (R := fun _ C M' => zI n K C M' ∧ zsc M M') (fun k s => cB_turn k s) (fun k s => mB_expire k s) 3 (ix (M 0 6)) hP ⟨h, zsc_r M⟩ (fun k C M' hk h => ?_) (fun k C M' h1 h2 h => ?_)
    · exact ⟨zI_turn h.1 (by omega), (zk_expire1 ⟨zI_W h.1, h.2⟩ k).2⟩
    · refine ⟨?_, h.2⟩
      have e : M' 68 k = -1 := (zI_O h.1).2.2.2 k h2 (by rw [h.2 0 6 rfl]; exact h1)
      unfold cB_turn
      rw [ze_on (zI_E h.1) h2, e]
      exact h.1
  exact key.1
/-! The relation: who is taken -/
/-- all but the rows of those taken -/
def z34 (C C' : zSg) : Prop := ∀ a b, a ≠ 13 → a ≠ 14 → C' a b = C a b
theorem z34_q {C C' : zSg} (h : z34 C C') : zCq C C' := fun a b q => h a b (fun e => q (by unfold zQs; omega)) (fun e => q (by unfold zQs; omega))
theorem z34_up {C C' : zSg} (h : z34 C C') {a b : Nat} (v : Int32) (ha : a = 13 ∨ a = 14) : z34 C (zup C' a b v) := fun x y h1 h2 => by
  rw [zup_a (by omega)]
  exact h x y h1 h2
theorem mF_left_L {M : zSg} (k : Nat) (hk : k < ix (M 0 15)) : (mF_left M).1 k = mF_lent M (nI k) := by
  have key : ∀ k, k < ix (M 0 15) → (mF_left M).1 k = mF_lent M (nI k) := by
    refine q_fold (P := fun m s => ∀ k, k < m → s.1 k = mF_lent M (nI k)) (fun i s => mB_left M i s) (ix (M 0 15)) (fun k hk => absurd hk (Nat.not_lt_zero k)) (fun m s hm h k hk => ?_)
    show upd s.1 m (mF_lent M (nI m)) k = _
    unfold upd
    by_cases e : k = m
    · rw [if_pos e, e]
    · rw [if_neg e]
      exact h k (by omega)
  exact key k hk
theorem mF_left_b {M : zSg} (hW : zmW M) {i : Nat} (hi : i < 32) : bt (mF_left M).2 i = true ↔ i < ix (M 0 15) ∧ (M 41 i = 1 ∨ M 41 i = 2) := by
  have h16 := zmW_n16 hW
  have key : ∀ i, i < 32 → (bt (mF_left M).2 i = true ↔ i < ix (M 0 15) ∧ (M 41 i = 1 ∨ M 41 i = 2)) := by
    refine q_fold (P := fun m s => ∀ i, i < 32 → (bt s.2 i = true ↔ i < m ∧ (M 41 i = 1 ∨ M 41 i = 2))) (fun i s => mB_left M i s) (ix (M 0 15)) (fun i hi => ?_) (fun m s hm h i hi => ?_)
    · show bt 0 i = true ↔ _
      rw [b_0]
      exact ⟨fun e => absurd e (by decide), fun e => absurd e.1 (Nat.not_lt_zero i)⟩
    · show bt (s.2 ||| (if M 41 m = 1 then (1 : Int32) <<< (nI m &&& 31) else if M 41 m = 2 then (1 : Int32) <<< (nI m &&& 31) else 0)) i = true ↔ _
      have h9 := h i hi
      by_cases c : M 41 m = 1 ∨ M 41 m = 2
      · have e : (if M 41 m = 1 then (1 : Int32) <<< (nI m &&& 31) else if M 41 m = 2 then (1 : Int32) <<< (nI m &&& 31) else 0) = (1 : Int32) <<< (nI m &&& 31) := by
          rcases c with c | c
          · rw [if_pos c]
          · by_cases c1 : M 41 m = 1
            · rw [if_pos c1]
            · rw [if_neg c1, if_pos c]
        rw [e, q_or s.2 (by omega) hi, Bool.or_eq_true, h9, decide_eq_true_eq]
        constructor
        · rintro (⟨a, b⟩ | a)
          · exact ⟨by omega, b⟩
          · rw [a]
            exact ⟨by omega, c⟩
        · rintro ⟨a, b⟩
          by_cases e1 : i = m
          · exact Or.inr e1
          · exact Or.inl ⟨by omega, b⟩
      · have e : (if M 41 m = 1 then (1 : Int32) <<< (nI m &&& 31) else if M 41 m = 2 then (1 : Int32) <<< (nI m &&& 31) else 0) = 0 := by
          rw [if_neg (fun e => c (Or.inl e)), if_neg (fun e => c (Or.inr e))]
        rw [e, Int32.or_zero, h9]
        constructor
        · rintro ⟨a, b⟩
          exact ⟨by omega, b⟩
        · rintro ⟨a, b⟩
          refine ⟨?_, b⟩
          have : i ≠ m := fun e1 => c (e1 ▸ b)
          omega
  exact key i hi
theorem cF_in_b {C : zSg} (hU : ∀ t, t < 16 → C (ztk t) 0 = nI t) (st : Int32) {i : Nat} (hi : i < 32) : bt (cF_in C st) i = true ↔ i < 16 ∧ C (ztk i) 5 = st := by
  have key : ∀ i, i < 32 → (bt (cF_in C st) i = true ↔ i < 16 ∧ C (ztk i) 5 = st) := by
    refine q_fold (P := fun m s => ∀ i, i < 32 → (bt s i = true ↔ i < m ∧ C (ztk i) 5 = st)) (fun i s => cB_in C st i s) 16 (fun i hi => ?_) (fun m s hm h i hi => ?_)
    · show bt 0 i = true ↔ _
      rw [b_0]
      exact ⟨fun e => absurd e (by decide), fun e => absurd e.1 (Nat.not_lt_zero i)⟩
    · show bt (cB_in C st m s) i = true ↔ _
      have h9 := h i hi
      unfold cB_in
      by_cases c : C (ztk m) 5 = st
      · rw [if_pos c, hU m hm, q_or s (by omega) hi, Bool.or_eq_true, h9, decide_eq_true_eq]
        constructor
        · rintro (⟨a, b⟩ | a)
          · exact ⟨by omega, b⟩
          · rw [a]
            exact ⟨by omega, c⟩
        · rintro ⟨a, b⟩
          by_cases e1 : i = m
          · exact Or.inr e1
          · exact Or.inl ⟨by omega, b⟩
      · rw [if_neg c, h9]
        constructor
        · rintro ⟨a, b⟩
          exact ⟨by omega, b⟩
        · rintro ⟨a, b⟩
          refine ⟨?_, b⟩
          have : i ≠ m := fun e1 => c (e1 ▸ b)
          omega
  exact key i hi
theorem bt_iff {a b : Bool} (h : a = true ↔ b = true) : a = b := by
  cases a <;> cases b <;> simp_all
theorem left_eq {n K : Nat} {C M : zSg} (h : zI n K C M) : cF_in C 1 ||| cF_in C 2 = (mF_left M).2 := by
  have hn := zI_n h
  refine b_ext fun i hi => bt_iff ?_
  rw [b_or, Bool.or_eq_true, cF_in_b (fun t ht => zI_U h ht) 1 hi, cF_in_b (fun t ht => zI_U h ht) 2 hi, mF_left_b (zI_W h) hi, zI_ix h]
  constructor
  · rintro (⟨a, b⟩ | ⟨a, b⟩)
    · rw [zI_st h a] at b
      exact ⟨zI_lt h a (by rw [b]; decide), Or.inl b⟩
    · rw [zI_st h a] at b
      exact ⟨zI_lt h a (by rw [b]; decide), Or.inr b⟩
  · rintro ⟨a, b | b⟩
    · exact Or.inl ⟨by omega, by rw [zI_st h (by omega)]; exact b⟩
    · exact Or.inr ⟨by omega, by rw [zI_st h (by omega)]; exact b⟩
/-- the first of a set, for both -/
theorem first_eq {n K : Nat} {C M : zSg} {L : Nat → Int32} {w : Int32} (h : zI n K C M) (hL : ∀ t, t < n → C (ztk t) 15 = L t) (hw : ∀ i, i < 32 → bt w i = true → i < n ∧ (M 41 i = 1 ∨ M 41 i = 2)) :
    (cF_first C w = none ∧ mF_best M L w = -1 ∧ w = 0) ∨ ∃ u, u < n ∧ cF_first C w = some u ∧ mF_best M L w = nI u ∧ bt w u = true := by
  have hn := zI_n h
  have hE := zI_E h
  have key : (cF_first C w = none ∧ mF_best M L w = -1 ∧ ∀ t, t < 16 → bt w t = false) ∨ ∃ u, u < n ∧ cF_first C w = some u ∧ mF_best M L w = nI u ∧ bt w u = true := by
    unfold cF_first mF_best
    rw [zI_ix h]
    refine q_fold2 (R := fun m (s : Option Nat) (x : Int32) => (s = none ∧ x = -1 ∧ ∀ t, t < m → bt w t = false) ∨ ∃ u, u < n ∧ s = some u ∧ x = nI u ∧ bt w u = true) (fun k s => cB_first C w k s) (fun k s => mB_best M L w k s) 16 n hn (Or.inl ⟨rfl, rfl, fun t ht => absurd ht (Nat.not_lt_zero t)⟩) (fun k s x hk hr => ?_) (fun k s x h1 h2 hr => ?_)
    · show (cB_first C w k s = none ∧ mB_best M L w k x = -1 ∧ _) ∨ ∃ u, u < n ∧ cB_first C w k s = some u ∧ mB_best M L w k x = nI u ∧ _
      by_cases c : bt w k = false
      · have e1 : cB_first C w k s = s := by
          unfold cB_first
          rw [zI_U h (by omega), if_pos ((q_tst2 w (by omega)).mpr c)]
        have e2 : mB_best M L w k x = x := by
          unfold mB_best
          rw [if_pos ((q_tst w (by omega)).mpr c)]
        rw [e1, e2]
        rcases hr with ⟨a, b, d⟩ | hr
        · refine Or.inl ⟨a, b, fun t ht => ?_⟩
          by_cases e : t = k
          · rw [e]; exact c
          · exact d t (by omega)
        · exact Or.inr hr
      · have c1 : bt w k = true := by
          cases hb : bt w k
          · exact absurd hb c
          · rfl
        have e2 : mB_best M L w k x = if x = -1 then nI k else if mF_isAhead M (nI k) (L k) x (L (ix x)) = true then nI k else x := by
          unfold mB_best
          rw [if_neg (fun e => c ((q_tst w (by omega)).mp e))]
        rw [e2]
        right
        rcases hr with ⟨rfl, rfl, _⟩ | ⟨j, hj, rfl, rfl, hb⟩
        · rw [if_pos rfl]
          exact ⟨k, hk, by unfold cB_first; rw [zI_U h (by omega), if_neg (fun e => c ((q_tst2 w (by omega)).mp e))], rfl, c1⟩
        · rw [if_neg (nI_nm j (by omega)), zix (by omega)]
          have e3 : cB_first C w k (some j) = if cF_comesAhead C k j = true then some k else some j := by
            unfold cB_first
            rw [zI_U h (by omega), if_neg (fun e => c ((q_tst2 w (by omega)).mp e))]
          have sk := (hw k (by omega) c1).2
          have sj := (hw j (by omega) hb).2
          have e4 : cF_comesAhead C k j = mF_isAhead M (nI k) (L k) (nI j) (L j) := by
            unfold cF_comesAhead mF_isAhead mS_ahead mQ_ahead
            rw [hL k hk, hL j hj, zI_st h (by omega), zI_st h (by omega), ze_stand hE hk, ze_stand hE hj, zix (by omega), zix (by omega)]
            by_cases d : L k = L j
            · rw [if_pos d, if_pos d]
              rcases sk with sk | sk <;> rcases sj with sj | sj
              · rw [sk, sj, if_pos rfl, if_neg (c := (1 : Int32) = 2) (by decide), if_neg (c := (1 : Int32) = 2) (by decide)]
              · rw [sk, sj, if_neg (c := (1 : Int32) = 2) (by decide), if_neg (c := (1 : Int32) = 2) (by decide), if_neg (c := (1 : Int32) = 2) (by decide), if_pos rfl]
              · rw [sk, sj, if_neg (c := (2 : Int32) = 1) (by decide), if_pos rfl, if_pos rfl, if_neg (c := (1 : Int32) = 2) (by decide)]
              · rw [sk, sj, if_pos rfl, if_pos rfl]
            · rw [if_neg d, if_neg d]
          rw [e3, e4]
          by_cases d : mF_isAhead M (nI k) (L k) (nI j) (L j) = true
          · rw [if_pos d, if_pos d]
            exact ⟨k, hk, rfl, rfl, c1⟩
          · rw [if_neg d, if_neg d]
            exact ⟨j, hj, rfl, rfl, hb⟩
    · have c : bt w k = false := by
        cases hb : bt w k
        · rfl
        · have := (hw k (by omega) hb).1
          omega
      have e1 : cB_first C w k s = s := by
        unfold cB_first
        rw [zI_U h h2, if_pos ((q_tst2 w (by omega)).mpr c)]
      show (cB_first C w k s = none ∧ x = -1 ∧ _) ∨ ∃ u, u < n ∧ cB_first C w k s = some u ∧ x = nI u ∧ _
      rw [e1]
      rcases hr with ⟨a, b, d⟩ | hr
      · refine Or.inl ⟨a, b, fun t ht => ?_⟩
        by_cases e : t = k
        · rw [e]; exact c
        · exact d t (by omega)
      · exact Or.inr hr
  rcases key with ⟨a, b, d⟩ | k
  · refine Or.inl ⟨a, b, b_ext fun i hi => ?_⟩
    rw [b_0]
    cases hb : bt w i
    · rfl
    · have := (hw i hi hb).1
      rw [d i (by omega)] at hb
      cases hb
  · exact Or.inr k
