/-! The relation: one step of a program, and all up to a run -/
/-- the class's step, with the step restored where the task waits -/
def qDo (C : zSg) (u : Nat) (c n : Int32) : zSg :=
  let C2 := cF_do (zup C (ztk u) 6 (C (ztk u) 6 + 1)) u c n
  if C2 (ztk u) 5 = 4 then zup C2 (ztk u) 6 (C (ztk u) 6) else if C2 (ztk u) 5 = 5 then zup C2 (ztk u) 6 (C (ztk u) 6) else C2
theorem zok6_n {its n : Int32} (h : zok6 its n = true) (h2 : its = 2 ∨ its = 3 ∨ its = 4 ∨ its = 5) : ∃ q, q < 6 ∧ n = nI q := vp_in_of (zok6_of h h2) (by decide)
theorem zI_do {n K u p : Nat} {C M : zSg} {code nn : Int32} (h : zI n K C M) (hK : K ≤ 200000) (hu : u < n) (hp : p < 3) (hup : M 68 p = nI u) (ec : M (8 + u) (ix (M 42 u)) = code) (hok : zok6 code nn = true) (hc : ¬ code = 0) :
    (mF_doStep M (nI u) code nn 41 u = 2 ∧ zI n K (qDo C u code nn) (mF_doStep M (nI u) code nn) ∧ mF_doStep M (nI u) code nn 68 p = nI u ∧ mF_doStep M (nI u) code nn 42 u = M 42 u + 1) ∨
    (¬ mF_doStep M (nI u) code nn 41 u = 2 ∧ zI n (K + 1) (qDo C u code nn) (mF_doStep M (nI u) code nn)) := by
  have hn := zI_n h
  have h2 := zI_on2 h hu hp hup
  have hT := zI_T h hu
  have hxu : ix (nI u) = u := zix (by omega)
  have hb := hT.2.2.2.2.1 (by rw [h2]; decide) (by rw [h2]; decide)
  have hs := step_nx (zI_W h) hb.1 hb.2 (by rw [ec]; exact hc)
  have h6 : C (ztk u) 6 = M 42 u := hT.1 (by rw [h2]; decide)
  have hst : zI n K (zup C (ztk u) 6 (M 42 u + 1)) (zup M 42 u (M 42 u + 1)) := zI_step h hu h2 hs
  have hup1 : zup M 42 u (M 42 u + 1) 68 p = nI u := hup
  have h21 : zup M 42 u (M 42 u + 1) 41 u = 2 := h2
  have h42 : zup M 42 u (M 42 u + 1) 42 u = M 42 u + 1 := zup_at _ _ _ _
  have hC6 : ∀ x, zup (cF_waitFor (zup C (ztk u) 6 (M 42 u + 1)) u x nn) (ztk u) 6 (M 42 u) = cF_waitFor C u x nn := fun x => by
    rw [← h6]
    exact wait_back C u _ _ _
  -- an end with the task still running
  have run : ∀ (C2 M2 : zSg), cF_do (zup C (ztk u) 6 (M 42 u + 1)) u code nn = C2 → mF_doStep M (nI u) code nn = M2 → zI n K C2 M2 → M2 41 u = 2 → M2 68 p = nI u → M2 42 u = M 42 u + 1 →
      (mF_doStep M (nI u) code nn 41 u = 2 ∧ zI n K (qDo C u code nn) (mF_doStep M (nI u) code nn) ∧ mF_doStep M (nI u) code nn 68 p = nI u ∧ mF_doStep M (nI u) code nn 42 u = M 42 u + 1) ∨ (¬ mF_doStep M (nI u) code nn 41 u = 2 ∧ zI n (K + 1) (qDo C u code nn) (mF_doStep M (nI u) code nn)) := by
    intro C2 M2 e1 e2 g1 g2 g3 g4
    left
    have e5 : C2 (ztk u) 5 = 2 := (zI_st g1 (by omega)).trans g2
    unfold qDo
    rw [h6, e1, e2]
    dsimp only
    rw [e5, if_neg (by decide), if_neg (by decide)]
    exact ⟨g2, g1, g3, g4⟩
  -- an end where the task is ready or asleep
  have off : ∀ (C2 M2 : zSg), cF_do (zup C (ztk u) 6 (M 42 u + 1)) u code nn = C2 → mF_doStep M (nI u) code nn = M2 → zI n (K + 1) C2 M2 → M2 41 u = 1 ∨ M2 41 u = 3 →
      (mF_doStep M (nI u) code nn 41 u = 2 ∧ zI n K (qDo C u code nn) (mF_doStep M (nI u) code nn) ∧ mF_doStep M (nI u) code nn 68 p = nI u ∧ mF_doStep M (nI u) code nn 42 u = M 42 u + 1) ∨ (¬ mF_doStep M (nI u) code nn 41 u = 2 ∧ zI n (K + 1) (qDo C u code nn) (mF_doStep M (nI u) code nn)) := by
    intro C2 M2 e1 e2 g1 g2
    right
    have e5 : C2 (ztk u) 5 = M2 41 u := zI_st g1 (by omega)
    unfold qDo
    rw [h6, e1, e2]
    dsimp only
    rw [e5]
    rcases g2 with g2 | g2
    · rw [g2, if_neg (by decide), if_neg (by decide)]
      exact ⟨by decide, g1⟩
    · rw [g2, if_neg (by decide), if_neg (by decide)]
      exact ⟨by decide, g1⟩
  -- an end where the task waits
  have wt : ∀ (its : Int32) (q : Nat), (its = 4 ∨ its = 5) → nn = nI q → cF_do (zup C (ztk u) 6 (M 42 u + 1)) u code nn = cF_waitFor (zup C (ztk u) 6 (M 42 u + 1)) u its nn → mF_doStep M (nI u) code nn = mF_stay M (nI u) its nn → zI n (K + 1) (cF_waitFor C u its nn) (mF_stay M (nI u) its nn) →
      (mF_doStep M (nI u) code nn 41 u = 2 ∧ zI n K (qDo C u code nn) (mF_doStep M (nI u) code nn) ∧ mF_doStep M (nI u) code nn 68 p = nI u ∧ mF_doStep M (nI u) code nn 42 u = M 42 u + 1) ∨ (¬ mF_doStep M (nI u) code nn 41 u = 2 ∧ zI n (K + 1) (qDo C u code nn) (mF_doStep M (nI u) code nn)) := by
    intro its q hi hq e1 e2 g1
    right
    have m5 : mF_stay M (nI u) its nn 41 u = its := by
      unfold mF_stay
      rw [hxu]
      show (if u = u then its else mF_leave M (nI u) 41 u) = its
      rw [if_pos rfl]
    have c5 : cF_waitFor (zup C (ztk u) 6 (M 42 u + 1)) u its nn (ztk u) 5 = its := by
      rw [wait_6, zup_b (by decide), zI_st g1 (by omega), m5]
    unfold qDo
    rw [h6, e1, e2, m5]
    dsimp only
    rw [c5]
    rcases hi with hi | hi
    · subst hi
      rw [if_pos rfl, hC6]
      exact ⟨by decide, g1⟩
    · subst hi
      rw [if_neg (by decide), if_pos rfl, hC6]
      exact ⟨by decide, g1⟩
  by_cases c1 : code = 1
  · subst c1
    refine off (cF_waitFor (zup C (ztk u) 6 (M 42 u + 1)) u 3 (M 0 1 + nn)) (zup (zup (mF_leave (zup M 42 u (M 42 u + 1)) (nI u)) 41 u 3) 48 u (M 0 1 + nn)) ?_ ?_ (zI_sleeps hst hK hu hp hup1) (Or.inr ?_)
    · unfold cF_do
      rw [if_pos rfl, ze_clk (zI_E hst)]
      rfl
    · unfold mF_doStep mD_aw mD_go mD_sleep
      rw [if_neg (by decide), if_neg (by decide), if_pos rfl, hxu]
      have e9 : zup (mF_leave (zup M 42 u (M 42 u + 1)) (nI u)) 41 u 3 0 1 = M 0 1 := by
        rw [zup_a (by decide), mF_leave_at, if_neg (by omega)]
        rfl
      dsimp only
      rw [e9]
    · rw [zup_a (by decide), zup_at]
  · by_cases c2 : code = 2
    · subst c2
      obtain ⟨q, hq, rfl⟩ := zok6_n hok (Or.inl rfl)
      have hxq : ix (nI q) = q := zix (by omega)
      have ed : cF_do (zup C (ztk u) 6 (M 42 u + 1)) u 2 (nI q) = if M 101 q = nI u then zup C (ztk u) 6 (M 42 u + 1) else if M 101 q = -1 then zup (zup C (ztk u) 6 (M 42 u + 1)) 10 q (nI u) else cF_waitFor (zup C (ztk u) 6 (M 42 u + 1)) u 4 (nI q) := by
        unfold cF_do cF_lockBy
        rw [if_neg (by decide), if_pos rfl, if_neg (nI_pos (by omega)), if_pos (zlt_T (x := 6) (by decide) hq), hxq, ze_hold (zI_E hst) hq, zI_U hst (by omega)]
        rfl
      have em : mF_doStep M (nI u) 2 (nI q) = if M 101 q = -1 then zup (zup M 42 u (M 42 u + 1)) 101 q (nI u) else if M 101 q = nI u then zup (zup M 42 u (M 42 u + 1)) 101 q (nI u) else mF_stay M (nI u) 4 (nI q) := by
        unfold mF_doStep mD_aw mD_go
        rw [if_pos rfl, hxq, hxu, if_neg (c := (2 : Int32) = 5) (by decide), if_neg (c := (2 : Int32) = 1) (by decide), if_pos (c := (2 : Int32) = 2) rfl]
      by_cases d1 : M 101 q = nI u
      · rw [if_pos d1] at ed
        rw [if_pos d1, if_neg (c := M 101 q = -1) (by rw [d1]; exact nI_nm u (by omega))] at em
        have e9 : zup (zup M 42 u (M 42 u + 1)) 101 q (nI u) = zup M 42 u (M 42 u + 1) := by
          have := zup_self (zup M 42 u (M 42 u + 1)) 101 q
          rw [show zup M 42 u (M 42 u + 1) 101 q = nI u from d1] at this
          exact this
        exact run _ _ ed (em.trans e9) hst h21 hup1 h42
      · rw [if_neg d1] at ed em
        by_cases d2 : M 101 q = -1
        · rw [if_pos d2] at ed em
          exact run _ _ ed em (zI_hold hst hq (zr_nI (by omega)) (fun e => absurd e (nI_nm u (by omega)))) h21 hup1 h42
        · rw [if_neg d2] at ed em
          exact wt 4 q (Or.inl rfl) rfl ed em (zI_stays h hK hu hp hup (Or.inl rfl) hq (fun _ => d2) (by rw [ec]; exact hc))
    · by_cases c3 : code = 3
      · subst c3
        obtain ⟨q, hq, rfl⟩ := zok6_n hok (Or.inr (Or.inl rfl))
        have hxq : ix (nI q) = q := zix (by omega)
        have ed : cF_do (zup C (ztk u) 6 (M 42 u + 1)) u 3 (nI q) = cF_unlock (zup C (ztk u) 6 (M 42 u + 1)) u (nI q) := by
          unfold cF_do
          rw [if_neg (by decide), if_neg (by decide), if_pos rfl]
        have em : mF_doStep M (nI u) 3 (nI q) = if zup M 42 u (M 42 u + 1) 101 q = nI u then mF_free (zup M 42 u (M 42 u + 1)) (nI q) else zup M 42 u (M 42 u + 1) := by
          unfold mF_doStep mD_aw mD_go
          rw [if_neg (by decide), if_neg (by decide), hxu, hxq]
          dsimp only
          rw [if_neg (c := (3 : Int32) = 1) (by decide), if_neg (c := (3 : Int32) = 2) (by decide), if_pos (c := (3 : Int32) = 3) rfl]
        have g := zI_unlock hst hq (i := u) (by omega) (by rw [h21]; decide)
        obtain ⟨f1, f2, f3⟩ := free_st (zI_W hst) (u := u) (nI q) (by rw [h21]; decide)
        refine run _ _ ed em g ?_ ?_ ?_
        · split
          · exact f1.trans h21
          · exact h21
        · split
          · exact (f2 p).trans hup1
          · exact hup1
        · split
          · exact f3.trans h42
          · exact h42
      · by_cases c4 : code = 4
        · subst c4
          obtain ⟨q, hq, rfl⟩ := zok6_n hok (Or.inr (Or.inr (Or.inl rfl)))
          have ed : cF_do (zup C (ztk u) 6 (M 42 u + 1)) u 4 (nI q) = cF_signal (zup C (ztk u) 6 (M 42 u + 1)) (nI q) := by
            unfold cF_do
            rw [if_neg (by decide), if_neg (by decide), if_neg (by decide), if_pos rfl]
          have em : mF_doStep M (nI u) 4 (nI q) = mF_signal (zup M 42 u (M 42 u + 1)) (nI q) := by
            unfold mF_doStep mD_aw mD_go
            rw [if_neg (by decide), if_neg (by decide), hxu]
            dsimp only
            rw [if_neg (c := (4 : Int32) = 1) (by decide), if_neg (c := (4 : Int32) = 2) (by decide), if_neg (c := (4 : Int32) = 3) (by decide), if_pos (c := (4 : Int32) = 4) rfl]
          obtain ⟨f1, f2, f3⟩ := signal_st (zI_W hst) (u := u) (nI q) (by rw [h21]; decide)
          exact run _ _ ed em (zI_signal hst hq) (f1.trans h21) ((f2 p).trans hup1) (f3.trans h42)
        · by_cases c5 : code = 5
          · subst c5
            obtain ⟨q, hq, rfl⟩ := zok6_n hok (Or.inr (Or.inr (Or.inr rfl)))
            have hxq : ix (nI q) = q := zix (by omega)
            have ed : cF_do (zup C (ztk u) 6 (M 42 u + 1)) u 5 (nI q) = if 0 < M 102 q then zup (zup C (ztk u) 6 (M 42 u + 1)) 11 q (M 102 q - 1) else cF_waitFor (zup C (ztk u) 6 (M 42 u + 1)) u 5 (nI q) := by
              unfold cF_do cF_awaitBy
              rw [if_neg (by decide), if_neg (by decide), if_neg (by decide), if_neg (by decide), if_pos rfl, if_neg (nI_pos (by omega)), if_pos (zlt_T (x := 6) (by decide) hq), hxq, ze_sig (zI_E hst) hq]
              rfl
            have em : mF_doStep M (nI u) 5 (nI q) = if M 102 q = 0 then mF_stay M (nI u) 5 (nI q) else zup (zup M 42 u (M 42 u + 1)) 102 q (M 102 q - 1) := by
              unfold mF_doStep mD_aw mD_go
              rw [if_neg (by decide), if_pos rfl, hxq, hxu, if_neg (c := (5 : Int32) = 1) (by decide), if_neg (c := (5 : Int32) = 2) (by decide), if_neg (c := (5 : Int32) = 3) (by decide), if_neg (c := (5 : Int32) = 4) (by decide), if_pos (c := (5 : Int32) = 5) rfl]
              rfl
            have h0 : 0 ≤ (M 102 q).toInt := (zI_W h 102 q).1
            by_cases d1 : M 102 q = 0
            · rw [if_neg (c := 0 < M 102 q) (by rw [d1]; decide)] at ed
              rw [if_pos d1] at em
              exact wt 5 q (Or.inr rfl) rfl ed em (zI_stays h hK hu hp hup (Or.inr rfl) hq (fun e => absurd e (by decide)) (by rw [ec]; exact hc))
            · have d2 : 0 < M 102 q := by
                rw [Int32.lt_iff_toInt_lt, show (0 : Int32).toInt = 0 from rfl]
                have : (M 102 q).toInt ≠ 0 := fun e => d1 (Int32.toInt_inj.mp e)
                omega
              rw [if_pos d2] at ed
              rw [if_neg d1] at em
              exact run _ _ ed em (zI_pl hst (f := 102) (j := q) (by unfold zdm; omega) rfl (by omega) rfl (zdec (zI_W h 102 q) d1) rfl ⟨fun e => by omega, fun e => by exfalso; omega, fun t ht9 e => by omega⟩) h21 hup1 h42
          · have ed : cF_do (zup C (ztk u) 6 (M 42 u + 1)) u code nn = cF_ready (zup (zup C (ztk u) 6 (M 42 u + 1)) 12 p (-1)) u := by
              unfold cF_do
              rw [if_neg c1, if_neg c2, if_neg c3, if_neg c4, if_neg c5, cF_leave_on (zI_E hst) (zI_O hst) (by omega) (zI_U hst (by omega)) hp hup1]
            have em : mF_doStep M (nI u) code nn = mF_ready (zup (zup M 42 u (M 42 u + 1)) 68 p (-1)) (nI u) := by
              unfold mF_doStep mD_aw mD_go
              rw [if_neg c2, if_neg c5]
              dsimp only
              rw [if_neg c1, if_neg c2, if_neg c3, if_neg c4, if_neg c5, hxu, mF_leave_on hn (zI_O hst) (by omega) hp hup1 (zmW_p3 (zI_W hst))]
            refine off _ _ ed em (zI_le (zI_offr hst hu hp hup1) (by omega)) (Or.inl ?_)
            unfold mF_ready
            rw [hxu]
            show (if u = u then 1 else M 41 u) = 1
            rw [if_pos rfl]
theorem qps_run {u j : Nat} {C : zSg} {code nn : Int32} (h2 : C (ztk u) 5 = 2) (e1 : cF_codeAt C u (C (ztk u) 6) = code) (e2 : cF_numAt C u (C (ztk u) 6) = nn) (hc : ¬ code = 0) : cF_ps u (j + 1) C = cF_ps u j (qDo C u code nn) := by
  rw [cF_ps, if_pos h2, e1, e2, if_neg hc]
  rfl
theorem zI_ps {n u p : Nat} (hp : p < 3) (hu : u < n) : ∀ (d j f K : Nat) (C M : zSg), zI n K C M → K ≤ 200000 → M 68 p = nI u → (M 6 u).toInt ≤ (M 42 u).toInt + d + 1 → d < j → d < f →
    ∃ M1, zKm M M1 ∧ zk M M1 ∧ ((M1 41 u = 2 ∧ zI n K (cF_ps u j C) M1 ∧ M1 68 p = nI u ∧ M1 (8 + u) (ix (M1 42 u)) = 0 ∧ mF_goOn f M (nI u) (nI p) = some (true, mF_runOne M1 (nI u) (nI p) (M1 (25 + u) (ix (M1 42 u))))) ∨
      (¬ M1 41 u = 2 ∧ zI n (K + 1) (cF_ps u j C) M1 ∧ mF_goOn f M (nI u) (nI p) = some (false, M1))) := by
  intro d
  induction d with
  | zero =>
    intro j f K C M h hK hup hd hj hf
    obtain ⟨j, rfl⟩ : ∃ j', j = j' + 1 := ⟨j - 1, by omega⟩
    obtain ⟨f, rfl⟩ : ∃ f', f = f' + 1 := ⟨f - 1, by omega⟩
    have hn := zI_n h
    have h2 := zI_on2 h hu hp hup
    have hT := zI_T h hu
    have hb := hT.2.2.2.2.1 (by rw [h2]; decide) (by rw [h2]; decide)
    have h6 : C (ztk u) 6 = M 42 u := hT.1 (by rw [h2]; decide)
    have h16 : (M 6 u).toInt ≤ 16 := (zI_W h 6 u).2
    have e0 : M 42 u = M 6 u - 1 := Int32.toInt_inj.mp (by rw [zsub1 (by omega)]; omega)
    have ec : M (8 + u) (ix (M 42 u)) = 0 := by rw [e0]; exact hb.2
    have hx := ztoInt hb.1.1
    have cc : cF_codeAt C u (C (ztk u) 6) = 0 := by
      unfold cF_codeAt
      rw [h6, if_neg (by rw [Int32.lt_iff_toInt_lt, show (0 : Int32).toInt = 0 from rfl]; omega), if_pos (by rw [Int32.lt_iff_toInt_lt, show (16 : Int32).toInt = 16 from rfl]; omega), ze_code hn (zI_E h) hu (by omega), ec]
    refine ⟨M, zKm_r M, zk_r (zI_W h), Or.inl ⟨h2, ?_, hup, ec, ?_⟩⟩
    · rw [cF_ps, zI_st h (by omega), if_pos h2, if_pos cc]
      exact h
    · rw [mF_goOn, zix (show u < 2147483648 by omega), if_pos h2, if_pos ⟨hb.1.1, by omega⟩, if_pos ec]
  | succ d ih =>
    intro j f K C M h hK hup hd hj hf
    obtain ⟨j, rfl⟩ : ∃ j', j = j' + 1 := ⟨j - 1, by omega⟩
    obtain ⟨f, rfl⟩ : ∃ f', f = f' + 1 := ⟨f - 1, by omega⟩
    have hn := zI_n h
    have h2 := zI_on2 h hu hp hup
    have hT := zI_T h hu
    have hb := hT.2.2.2.2.1 (by rw [h2]; decide) (by rw [h2]; decide)
    have h6 : C (ztk u) 6 = M 42 u := hT.1 (by rw [h2]; decide)
    have h16 : (M 6 u).toInt ≤ 16 := (zI_W h 6 u).2
    have hx := ztoInt hb.1.1
    have hx6 := ztoInt (x := M 6 u) (by omega)
    have i0 : ¬ M 42 u < 0 := by rw [Int32.lt_iff_toInt_lt, show (0 : Int32).toInt = 0 from rfl]; omega
    have i1 : M 42 u < 16 := by rw [Int32.lt_iff_toInt_lt, show (16 : Int32).toInt = 16 from rfl]; omega
    have cc : cF_codeAt C u (C (ztk u) 6) = M (8 + u) (ix (M 42 u)) := by
      unfold cF_codeAt
      rw [h6, if_neg i0, if_pos i1, ze_code hn (zI_E h) hu (by omega)]
    have cn : cF_numAt C u (C (ztk u) 6) = M (25 + u) (ix (M 42 u)) := by
      unfold cF_numAt
      rw [h6, if_neg i0, if_pos i1, ze_num hn (zI_E h) hu (by omega)]
    by_cases ec : M (8 + u) (ix (M 42 u)) = 0
    · refine ⟨M, zKm_r M, zk_r (zI_W h), Or.inl ⟨h2, ?_, hup, ec, ?_⟩⟩
      · rw [cF_ps, zI_st h (by omega), if_pos h2, if_pos (cc.trans ec)]
        exact h
      · rw [mF_goOn, zix (show u < 2147483648 by omega), if_pos h2, if_pos ⟨hb.1.1, by omega⟩, if_pos ec]
    · have hok : zok6 (M (8 + u) (ix (M 42 u))) (M (25 + u) (ix (M 42 u))) = true := hT.2.2.2.2.2.2.1 (ix (M 42 u)) (by omega)
      have eM : mF_goOn (f + 1) M (nI u) (nI p) = mF_goOn f (mF_doStep M (nI u) (M (8 + u) (ix (M 42 u))) (M (25 + u) (ix (M 42 u)))) (nI u) (nI p) := by
        rw [mF_goOn, zix (show u < 2147483648 by omega), if_pos h2, if_pos ⟨hb.1.1, by omega⟩, if_neg ec, if_pos hok]
      have eC : cF_ps u (j + 1) C = cF_ps u j (qDo C u (M (8 + u) (ix (M 42 u))) (M (25 + u) (ix (M 42 u)))) := qps_run ((zI_st h (by omega)).trans h2) cc cn ec
      have hkm : zKm M (mF_doStep M (nI u) (M (8 + u) (ix (M 42 u))) (M (25 + u) (ix (M 42 u)))) := km_doStep (zKm_r M) _ _ _
      have hzk : zk M (mF_doStep M (nI u) (M (8 + u) (ix (M 42 u))) (M (25 + u) (ix (M 42 u)))) := zk_doStep (zk_r (zI_W h)) _ _ _ (vp_in_nI (by omega) (by decide)) (zok6_of hok)
      have hs := step_nx (zI_W h) hb.1 hb.2 ec
      have hs2 : (M 42 u + 1).toInt = (M 42 u).toInt + 1 := fb_addI (y := 1) (by rw [show (1 : Int32).toInt = 1 from rfl]; omega) (by rw [show (1 : Int32).toInt = 1 from rfl]; omega)
      rw [eM, eC]
      rcases zI_do h hK hu hp hup rfl hok ec with ⟨g1, g2, g3, g4⟩ | ⟨g1, g2⟩
      · have g6 : mF_doStep M (nI u) (M (8 + u) (ix (M 42 u))) (M (25 + u) (ix (M 42 u))) 6 u = M 6 u := hzk.2 6 u rfl
        obtain ⟨M1, k1, k2, k3⟩ := ih j f K _ _ g2 hK g3 (by rw [g4, g6, hs2]; omega) (by omega) (by omega)
        exact ⟨M1, zKm_t hkm k1, zk_t hzk k2, k3⟩
      · refine ⟨_, hkm, hzk, Or.inr ⟨g1, ?_, ?_⟩⟩
        · have g5 : ¬ qDo C u (M (8 + u) (ix (M 42 u))) (M (25 + u) (ix (M 42 u))) (ztk u) 5 = 2 := by
            rw [zI_st g2 (by omega)]
            exact g1
          cases j with
          | zero => exact g2
          | succ j =>
            rw [cF_ps, if_neg g5]
            exact g2
        · obtain ⟨f, rfl⟩ : ∃ f', f = f' + 1 := ⟨f - 1, by omega⟩
          rw [mF_goOn, zix (show u < 2147483648 by omega), if_neg g1]
