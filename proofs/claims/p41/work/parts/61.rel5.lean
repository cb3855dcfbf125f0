/-! The relation: who is next, locks freed, signals -/
theorem step_nx {M : zSg} (hW : zmW M) {u : Nat} (h1 : 0 ≤ (M 42 u).toInt ∧ (M 42 u).toInt < (M 6 u).toInt) (hc : M (8 + u) (ix (M 6 u - 1)) = 0) (hn : ¬ M (8 + u) (ix (M 42 u)) = 0) : 0 ≤ (M 42 u + 1).toInt ∧ (M 42 u + 1).toInt < (M 6 u).toInt := by
  have h6 : (M 6 u).toInt ≤ 16 := (hW 6 u).2
  have e1 : (M 42 u + 1).toInt = (M 42 u).toInt + 1 := fb_addI (y := 1) (by rw [show (1 : Int32).toInt = 1 from rfl]; omega) (by rw [show (1 : Int32).toInt = 1 from rfl]; omega)
  have e2 := zsub1 (x := M 6 u) (by omega)
  have hne : (M 42 u).toInt ≠ (M 6 u).toInt - 1 := by
    intro e
    have e3 : M 42 u = M 6 u - 1 := Int32.toInt_inj.mp (by rw [e2]; exact e)
    rw [e3] at hn
    exact hn hc
  rw [e1]
  omega
/-- the heir and the next one, when the lock's holder waits for none -/
theorem next4 {n K : Nat} {C M : zSg} (h : zI n K C M) {q i : Nat} (hq : q < 6) (hi : i < 16) (hh : M 101 q = nI i) (h4 : ¬ M 41 i = 4) :
    (cF_heir (cF_lent C) (nI q) = none ∧ mF_next (zup M 101 q (-1)) 4 (nI q) = -1 ∧ ∀ t, t < n → M 41 t = 4 → ¬ M 49 t = nI q) ∨ ∃ j, cF_heir (cF_lent C) (nI q) = some j ∧ mF_next (zup M 101 q (-1)) 4 (nI q) = nI j ∧ j < n ∧ M 41 j = 4 ∧ M 49 j = nI q := by
  have hn := zI_n h
  have hL := cF_lent_fr C
  have hE := zI_E h
  have hx : ix (zup M 101 q (-1) 0 15) = n := (show ix (M 0 15) = n from zI_ix h)
  have key : (cF_heir (cF_lent C) (nI q) = none ∧ mF_next (zup M 101 q (-1)) 4 (nI q) = -1 ∧ ∀ t, t < n → t < 16 → M 41 t = 4 → ¬ M 49 t = nI q) ∨ ∃ j, cF_heir (cF_lent C) (nI q) = some j ∧ mF_next (zup M 101 q (-1)) 4 (nI q) = nI j ∧ j < n ∧ M 41 j = 4 ∧ M 49 j = nI q := by
    unfold cF_heir mF_next
    rw [hx]
    refine q_fold2 (R := fun m (s : Option Nat) (x : Int32) => (s = none ∧ x = -1 ∧ ∀ t, t < n → t < m → M 41 t = 4 → ¬ M 49 t = nI q) ∨ ∃ j, s = some j ∧ x = nI j ∧ j < n ∧ M 41 j = 4 ∧ M 49 j = nI q) (fun k s => cB_heir (cF_lent C) (nI q) k s) (fun k s => mB_next (zup M 101 q (-1)) 4 (nI q) k s) 16 n hn (Or.inl ⟨rfl, rfl, fun t _ ht => absurd ht (Nat.not_lt_zero t)⟩) (fun k s x hk hr => ?_) (fun k s x h1 h2 hr => ?_)
    · show (cB_heir (cF_lent C) (nI q) k s = none ∧ mB_next (zup M 101 q (-1)) 4 (nI q) k x = -1 ∧ _) ∨ ∃ j, cB_heir (cF_lent C) (nI q) k s = some j ∧ mB_next (zup M 101 q (-1)) 4 (nI q) k x = nI j ∧ _
      have m41 : zup M 101 q (-1) 41 k = M 41 k := rfl
      have m49 : zup M 101 q (-1) 49 k = M 49 k := rfl
      have m50 : ∀ v, zup M 101 q (-1) 50 v = M 50 v := fun _ => rfl
      by_cases c : M 41 k = 4
      · have hw := ((zI_T h hk).2.2.2.1 (Or.inl c)).1
        have hwt : cF_waitsAt (cF_lent C) k 4 (nI q) = if M 49 k = nI q then true else false := by
          unfold cF_waitsAt
          rw [zLf_t hL k (b := 5) (by decide), zLf_t hL k (b := 13) (by decide), zI_st h (by omega), hw, if_pos c]
        by_cases c2 : M 49 k = nI q
        · rw [if_pos c2] at hwt
          right
          rcases hr with ⟨rfl, rfl, _⟩ | ⟨j, rfl, rfl, hj, h5, h6⟩
          · refine ⟨k, by unfold cB_heir; rw [if_pos hwt], ?_, hk, c, c2⟩
            unfold mB_next
            rw [m41, m49, if_pos c, if_pos c2, if_pos rfl]
          · have hki : k ≠ i := fun e => h4 (e ▸ c)
            have hji : j ≠ i := fun e => h4 (e ▸ h5)
            have l1 := lent_cut h hq hi hh h4 hk hki
            have l2 := lent_cut h hq hi hh h4 hj hji
            have ao := (zI_A h).2.2.2 k j hk hj (Or.inl c) (Or.inl h5)
            have eb2 : cB_heir (cF_lent C) (nI q) k (some j) = if cF_inheritsAhead (cF_lent C) k j = true then some k else some j := by
              unfold cB_heir
              rw [if_pos hwt]
            have em : mB_next (zup M 101 q (-1)) 4 (nI q) k (nI j) = if mF_lent (zup M 101 q (-1)) (nI k) < mF_lent (zup M 101 q (-1)) (nI j) then nI k else if mF_lent (zup M 101 q (-1)) (nI k) = mF_lent (zup M 101 q (-1)) (nI j) then (if M 50 k < M 50 j then nI k else nI j) else nI j := by
              unfold mB_next
              rw [m41, m49, if_pos c, if_pos c2, if_neg (nI_nm j (by omega)), if_pos rfl, if_neg (c := (4 : Int32) = 5) (by decide), zix (by omega), m50, m50]
            have ei : cF_inheritsAhead (cF_lent C) k j = if mF_lent (zup M 101 q (-1)) (nI k) = mF_lent (zup M 101 q (-1)) (nI j) then (if C (ztk k) 14 < C (ztk j) 14 then true else false) else if mF_lent (zup M 101 q (-1)) (nI k) < mF_lent (zup M 101 q (-1)) (nI j) then true else false := by
              unfold cF_inheritsAhead
              rw [l1, l2, zLf_t hL k (b := 14) (by decide), zLf_t hL j (b := 14) (by decide)]
            rw [eb2, em, ei]
            generalize mF_lent (zup M 101 q (-1)) (nI k) = A
            generalize mF_lent (zup M 101 q (-1)) (nI j) = B
            by_cases d1 : A = B
            · subst d1
              have d2 : ¬ A < A := by rw [Int32.lt_iff_toInt_lt]; omega
              rw [if_pos rfl, if_neg d2, if_pos rfl]
              by_cases d3 : M 50 k < M 50 j
              · have d4 : C (ztk k) 14 < C (ztk j) 14 := by
                  rw [Int32.lt_iff_toInt_lt] at d3 ⊢
                  exact ao.mp d3
                rw [if_pos d3, if_pos d4, if_pos rfl]
                exact ⟨k, rfl, rfl, hk, c, c2⟩
              · have d4 : ¬ C (ztk k) 14 < C (ztk j) 14 := by
                  rw [Int32.lt_iff_toInt_lt] at d3 ⊢
                  exact fun e => d3 (ao.mpr e)
                rw [if_neg d3, if_neg d4, if_neg (by decide)]
                exact ⟨j, rfl, rfl, hj, h5, h6⟩
            · rw [if_neg d1, if_neg d1]
              by_cases d2 : A < B
              · rw [if_pos d2, if_pos d2, if_pos rfl]
                exact ⟨k, rfl, rfl, hk, c, c2⟩
              · rw [if_neg d2, if_neg d2, if_neg (by decide)]
                exact ⟨j, rfl, rfl, hj, h5, h6⟩
        · rw [if_neg c2] at hwt
          have e1 : cB_heir (cF_lent C) (nI q) k s = s := by
            unfold cB_heir
            rw [if_neg (by rw [hwt]; decide)]
          have e2 : mB_next (zup M 101 q (-1)) 4 (nI q) k x = x := by
            unfold mB_next
            rw [m41, m49, if_pos c, if_neg c2]
          rw [e1, e2]
          rcases hr with ⟨h5, h6, h7⟩ | hr
          · refine Or.inl ⟨h5, h6, fun t ht htk hs => ?_⟩
            by_cases e : t = k
            · rw [e]; exact c2
            · exact h7 t ht (by omega) hs
          · exact Or.inr hr
      · have e1 : cB_heir (cF_lent C) (nI q) k s = s := by
          unfold cB_heir
          refine if_neg ?_
          unfold cF_waitsAt
          rw [zLf_t hL k (b := 5) (by decide), zI_st h (by omega), if_neg c]
          decide
        have e2 : mB_next (zup M 101 q (-1)) 4 (nI q) k x = x := by
          unfold mB_next
          rw [m41, if_neg c]
        rw [e1, e2]
        rcases hr with ⟨h5, h6, h7⟩ | hr
        · refine Or.inl ⟨h5, h6, fun t ht htk hs => ?_⟩
          by_cases e : t = k
          · rw [e] at hs
            exact absurd hs c
          · exact h7 t ht (by omega) hs
        · exact Or.inr hr
    · have e1 : cB_heir (cF_lent C) (nI q) k s = s := by
        unfold cB_heir
        refine if_neg ?_
        unfold cF_waitsAt
        rw [zLf_t hL k (b := 5) (by decide), zI_st h h2, zI_H h h1 h2, if_neg (by decide)]
        decide
      show (cB_heir (cF_lent C) (nI q) k s = none ∧ x = -1 ∧ _) ∨ ∃ j, cB_heir (cF_lent C) (nI q) k s = some j ∧ x = nI j ∧ _
      rw [e1]
      rcases hr with ⟨h5, h6, h7⟩ | hr
      · exact Or.inl ⟨h5, h6, fun t ht htk hs => h7 t ht (by omega) hs⟩
      · exact Or.inr hr
  rcases key with ⟨a, b, c⟩ | k
  · exact Or.inl ⟨a, b, fun t ht => c t ht (by omega)⟩
  · exact Or.inr k
theorem next5 {n K : Nat} {C M : zSg} (h : zI n K C M) {q : Nat} (hq : q < 6) :
    (cF_sig C (nI q) = none ∧ mF_next M 5 (nI q) = -1) ∨ ∃ j, cF_sig C (nI q) = some j ∧ mF_next M 5 (nI q) = nI j ∧ j < n ∧ M 41 j = 5 ∧ M 49 j = nI q := by
  have hn := zI_n h
  have hE := zI_E h
  unfold cF_sig mF_next
  rw [zI_ix h]
  refine q_fold2 (R := fun _ (s : Option Nat) (x : Int32) => (s = none ∧ x = -1) ∨ ∃ j, s = some j ∧ x = nI j ∧ j < n ∧ M 41 j = 5 ∧ M 49 j = nI q) (fun k s => cB_sig C (nI q) k s) (fun k s => mB_next M 5 (nI q) k s) 16 n hn (Or.inl ⟨rfl, rfl⟩) (fun k s x hk hr => ?_) (fun k s x h1 h2 hr => ?_)
  · show (cB_sig C (nI q) k s = none ∧ mB_next M 5 (nI q) k x = -1) ∨ ∃ j, cB_sig C (nI q) k s = some j ∧ mB_next M 5 (nI q) k x = nI j ∧ _
    by_cases c : M 41 k = 5
    · have hw := ((zI_T h hk).2.2.2.1 (Or.inr c)).1
      have hwt : cF_waitsAt C k 5 (nI q) = if M 49 k = nI q then true else false := by
        unfold cF_waitsAt
        rw [zI_st h (by omega), hw, if_pos c]
      by_cases c2 : M 49 k = nI q
      · rw [if_pos c2] at hwt
        right
        rcases hr with ⟨rfl, rfl⟩ | ⟨j, rfl, rfl, hj, h5, h6⟩
        · refine ⟨k, by unfold cB_sig; rw [if_pos hwt], ?_, hk, c, c2⟩
          unfold mB_next
          rw [if_pos c, if_pos c2, if_pos rfl]
        · have ao := (zI_A h).2.2.2 k j hk hj (Or.inr c) (Or.inr h5)
          have eb2 : cB_sig C (nI q) k (some j) = if C (ztk k) 14 < C (ztk j) 14 then some k else some j := by
            unfold cB_sig
            rw [if_pos hwt]
          have em : mB_next M 5 (nI q) k (nI j) = if M 50 k < M 50 j then nI k else nI j := by
            unfold mB_next
            rw [if_pos c, if_pos c2, if_neg (nI_nm j (by omega)), if_neg (c := (5 : Int32) = 4) (by decide), if_pos rfl, zix (by omega)]
          rw [eb2, em]
          by_cases d3 : M 50 k < M 50 j
          · have d4 : C (ztk k) 14 < C (ztk j) 14 := by
              rw [Int32.lt_iff_toInt_lt] at d3 ⊢
              exact ao.mp d3
            rw [if_pos d3, if_pos d4]
            exact ⟨k, rfl, rfl, hk, c, c2⟩
          · have d4 : ¬ C (ztk k) 14 < C (ztk j) 14 := by
              rw [Int32.lt_iff_toInt_lt] at d3 ⊢
              exact fun e => d3 (ao.mpr e)
            rw [if_neg d3, if_neg d4]
            exact ⟨j, rfl, rfl, hj, h5, h6⟩
      · rw [if_neg c2] at hwt
        have e1 : cB_sig C (nI q) k s = s := by
          unfold cB_sig
          rw [if_neg (by rw [hwt]; decide)]
        have e2 : mB_next M 5 (nI q) k x = x := by
          unfold mB_next
          rw [if_pos c, if_neg c2]
        rw [e1, e2]
        exact hr
    · have e1 : cB_sig C (nI q) k s = s := by
        unfold cB_sig
        refine if_neg ?_
        unfold cF_waitsAt
        rw [zI_st h (by omega), if_neg c]
        decide
      have e2 : mB_next M 5 (nI q) k x = x := by
        unfold mB_next
        rw [if_neg c]
      rw [e1, e2]
      exact hr
  · have e1 : cB_sig C (nI q) k s = s := by
      unfold cB_sig
      refine if_neg ?_
      unfold cF_waitsAt
      rw [zI_st h h2, zI_H h h1 h2, if_neg (by decide)]
      decide
    show (cB_sig C (nI q) k s = none ∧ x = -1) ∨ ∃ j, cB_sig C (nI q) k s = some j ∧ x = nI j ∧ _
    rw [e1]
    exact hr
/-- one that waited goes on behind its step -/
theorem zI_goes {n K : Nat} {C M : zSg} (h : zI n K C M) {j : Nat} (hj : j < n) (hs : M 41 j = 4 ∨ M 41 j = 5) : zI n K (cF_wake (zup C (ztk j) 6 (C (ztk j) 6 + 1)) j) (mF_wake (zup M 42 j (M 42 j + 1)) (nI j)) := by
  have hT := zI_T h hj
  have h0 : ¬ M 41 j = 0 := by rcases hs with e | e <;> rw [e] <;> decide
  have h6 : ¬ M 41 j = 6 := by rcases hs with e | e <;> rw [e] <;> decide
  have h2 : ¬ M 41 j = 2 := by rcases hs with e | e <;> rw [e] <;> decide
  have hb := hT.2.2.2.2.1 h0 h6
  rw [hT.1 h6]
  exact zI_wake h hj h0 h6 h2 (step_nx (zI_W h) hb.1 hb.2 (hT.2.2.2.1 hs).2)
theorem cF_unlock_y {C : zSg} {i q : Nat} (hq : q < 6) (hh : C 10 q = C (ztk i) 0) : cF_unlock C i (nI q) = (match cF_heir (cF_lent C) (nI q) with
  | none => zup (cF_lent C) 10 q (-1)
  | some j => cF_wake (zup (zup (cF_lent C) 10 q ((cF_lent C) (ztk j) 0)) (ztk j) 6 (zup (cF_lent C) 10 q ((cF_lent C) (ztk j) 0) (ztk j) 6 + 1)) j) := by
  unfold cF_unlock
  rw [if_neg (nI_pos (by omega)), if_pos (zlt_T (x := 6) (by decide) hq), zix (by omega), if_pos hh]
  cases cF_heir (cF_lent C) (nI q) <;> rfl
theorem cF_unlock_n {C : zSg} {i q : Nat} (hq : q < 6) (hh : ¬ C 10 q = C (ztk i) 0) : cF_unlock C i (nI q) = C := by
  unfold cF_unlock
  rw [if_neg (nI_pos (by omega)), if_pos (zlt_T (x := 6) (by decide) hq), zix (by omega), if_neg hh]
theorem zI_free {n K : Nat} {C M : zSg} (h : zI n K C M) {q i : Nat} (hq : q < 6) (hi : i < 16) (hh : M 101 q = nI i) (h4 : ¬ M 41 i = 4) : zI n K (cF_unlock C i (nI q)) (mF_free M (nI q)) := by
  have hn := zI_n h
  have hq1 : zI n K (cF_lent C) M := zI_q h (zLf_q (cF_lent_fr C))
  rw [cF_unlock_y hq (by rw [ze_hold (zI_E h) hq, zI_U h hi, hh])]
  unfold mF_free
  rw [zix (show q < 2147483648 by omega)]
  dsimp only
  rcases next4 h hq hi hh h4 with ⟨e1, e2, e3⟩ | ⟨j, e1, e2, hj, h5, h6⟩
  · rw [e1, e2, if_pos rfl]
    exact zI_hold hq1 hq zr_m1 (fun _ t ht hs => e3 t ht hs)
  · rw [e1, e2, if_neg (nI_nm j (by omega)), zup_zup, zix (by omega)]
    have hv : cF_lent C (ztk j) 0 = nI j := zI_U hq1 (by omega)
    have h9 : zI n K (zup (cF_lent C) 10 q (nI j)) (zup M 101 q (nI j)) := zI_hold hq1 hq (zr_nI (by omega)) (fun e => absurd e (nI_nm j (by omega)))
    show zI n K (cF_wake (zup (zup (cF_lent C) 10 q (cF_lent C (ztk j) 0)) (ztk j) 6 (zup (cF_lent C) 10 q (cF_lent C (ztk j) 0) (ztk j) 6 + 1)) j) _
    rw [hv]
    exact zI_goes h9 hj (Or.inl h5)
theorem zI_unlock {n K : Nat} {C M : zSg} (h : zI n K C M) {q i : Nat} (hq : q < 6) (hi : i < 16) (h4 : ¬ M 41 i = 4) : zI n K (cF_unlock C i (nI q)) (if M 101 q = nI i then mF_free M (nI q) else M) := by
  by_cases c : M 101 q = nI i
  · rw [if_pos c]
    exact zI_free h hq hi c h4
  · rw [if_neg c, cF_unlock_n hq (by rw [ze_hold (zI_E h) hq, zI_U h hi]; exact c)]
    exact h
theorem zI_signal {n K : Nat} {C M : zSg} (h : zI n K C M) {q : Nat} (hq : q < 6) : zI n K (cF_signal C (nI q)) (mF_signal M (nI q)) := by
  have hn := zI_n h
  unfold cF_signal mF_signal
  rw [if_neg (nI_pos (by omega)), if_pos (zlt_T (x := 6) (by decide) hq), zix (show q < 2147483648 by omega)]
  rcases next5 h hq with ⟨e1, e2⟩ | ⟨j, e1, e2, hj, h5, h6⟩
  · rw [e1, e2, if_pos rfl]
    show zI n K (if C 11 q < 99 then zup C 11 q (C 11 q + 1) else C) _
    rw [zif_zup, ze_sig (zI_E h) hq]
    have h9 := zI_W h 102 q
    have h1 : 0 ≤ (M 102 q).toInt := h9.1
    have h2 : (M 102 q).toInt ≤ 99 := h9.2
    have g := zinc (x := M 102 q) (b := 99) h9 (by decide)
    have e3 : (M 102 q + 1).toInt = (M 102 q).toInt + 1 := fb_addI (y := 1) (by rw [show (1 : Int32).toInt = 1 from rfl]; omega) (by rw [show (1 : Int32).toInt = 1 from rfl]; omega)
    refine zI_pl h (f := 102) (j := q) (by unfold zdm; omega) rfl (by omega) rfl ?_ ?_ ⟨fun e => by omega, fun e => by exfalso; omega, fun t ht9 e => by omega⟩
    · split
      · rename_i hlt
        rw [Int32.lt_iff_toInt_lt, show (99 : Int32).toInt = 99 from rfl] at hlt
        exact ⟨g.1, by show (M 102 q + 1).toInt ≤ 99; omega⟩
      · exact (show zr1 99 0 99 from ⟨by decide, by decide⟩)
    · by_cases c : M 102 q < 99
      · rw [if_pos c]
        rw [Int32.lt_iff_toInt_lt, show (99 : Int32).toInt = 99 from rfl] at c
        by_cases c2 : M 102 q + 1 < 99
        · rw [if_pos c2]
        · rw [if_neg c2]
          rw [Int32.lt_iff_toInt_lt, show (99 : Int32).toInt = 99 from rfl, e3] at c2
          exact Int32.toInt_inj.mp (by rw [e3, show (99 : Int32).toInt = 99 from rfl]; omega)
      · rw [if_neg c]
        rw [Int32.lt_iff_toInt_lt, show (99 : Int32).toInt = 99 from rfl] at c
        rw [if_neg (by rw [Int32.lt_iff_toInt_lt, show (99 : Int32).toInt = 99 from rfl, e3]; omega)]
        exact Int32.toInt_inj.mp (by rw [show (99 : Int32).toInt = 99 from rfl]; omega)
  · rw [e1, e2, if_neg (nI_nm j (by omega))]
    dsimp only
    rw [zix (by omega)]
    exact zI_goes h hj (Or.inr h5)
/-! The relation: a tick's beginning, turns that end -/
theorem zI_begin1 {n K : Nat} {C M : zSg} (h : zI n K C M) : zI n K (if cF_begins (C 0 9) (C 1 4) = true then (List.range 4).foldl (fun s k => zup s 9 k 0) C else C) (mT_a M) := by
  unfold mT_a
  have h5 : 1 ≤ (M 0 5).toInt := (zI_W h 0 5).1
  have e : cF_begins (C 0 9) (C 1 4) = if M 0 1 - M 0 1 / M 0 5 * M 0 5 = 0 then true else false := by
    unfold cF_begins
    rw [ze_clk (zI_E h), ze_pe (zI_E h), if_pos (by rw [Int32.lt_iff_toInt_lt, show (0 : Int32).toInt = 0 from rfl]; omega)]
  rw [e]
  by_cases c : M 0 1 - M 0 1 / M 0 5 * M 0 5 = 0
  · rw [if_pos c, if_pos c, if_pos rfl]
    exact q_fold2 (R := fun _ C M => zI n K C M) (fun k s => zup s 9 k 0) (fun k s => zup s 2 k 0) 4 4 (Nat.le_refl _) h (fun k C M hk h => zI_pl h (f := 2) (j := k) (by unfold zdm; omega) rfl (by omega) rfl (zr_any _) rfl ⟨fun e => by omega, fun e => by exfalso; omega, fun t ht9 e => by omega⟩) (fun k C M h1 h2 h => absurd h2 (by omega))
  · rw [if_neg c, if_neg c, if_neg (by decide)]
    exact h
theorem zI_begin {n K : Nat} {C M : zSg} (h : zI n K C M) : zI n K (cF_begin C) (mT_b (mT_a M)) := by
  have hn := zI_n h
  unfold cF_begin mT_b
  have h1 := zI_begin1 h
  generalize (if cF_begins (C 0 9) (C 1 4) = true then (List.range 4).foldl (fun s k => zup s 9 k 0) C else C) = C1 at h1 ⊢
  generalize mT_a M = M1 at h1 ⊢
  dsimp only
  rw [ze_way (zI_E h1)]
  by_cases c : M1 0 2 = 1
  · rw [if_pos c, if_pos c]
    have e : cF_begins (C1 0 9) (C1 1 3) = if 0 < M1 0 4 then (if M1 0 1 - M1 0 1 / M1 0 4 * M1 0 4 = 0 then true else false) else false := by
      unfold cF_begins
      rw [ze_clk (zI_E h1), ze_bo (zI_E h1)]
    rw [e]
    by_cases c2 : 0 < M1 0 4
    · rw [if_pos c2, if_pos c2]
      by_cases c3 : M1 0 1 - M1 0 1 / M1 0 4 * M1 0 4 = 0
      · rw [if_pos c3, if_pos c3, if_pos rfl, zI_ix h1]
        exact q_fold2 (R := fun _ C M => zI n K C M) (fun k s => zup s (ztk k) 10 0) (fun k s => zup s 46 k 0) 16 n hn h1 (fun k C M hk h => zI_pl h (f := 46) (j := k) (by unfold zdm; omega) rfl (by omega) rfl (show zr1 0 0 3 from ⟨by decide, by decide⟩) rfl ⟨fun e => by omega, fun _ _ => rfl, fun t ht9 e => by omega⟩) (fun k C M h1 h2 h => (by
          have e0 : C (ztk k) 10 = 0 := (ze_lev (zI_E h) h2).trans ((h.2.2.2.2.2.1 k h2).2.2.2.2.2.2.2 (zI_H h h1 h2)).2.2.1
          have e1 : zup C (ztk k) 10 0 = C := by
            have := zup_self C (ztk k) 10
            rw [e0] at this
            exact this
          show zI n K (zup C (ztk k) 10 0) M
          rw [e1]
          exact h))
      · rw [if_neg c3, if_neg c3, if_neg (by decide)]
        exact h1
    · rw [if_neg c2, if_neg c2, if_neg (by decide)]
      exact h1
  · rw [if_neg c, if_neg c]
    exact h1
