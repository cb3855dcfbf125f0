/-! The calls: a step more -/
theorem zlo_mid {f j : Nat} (h : (8 ≤ f ∧ f < 41) ∨ (52 ≤ f ∧ f < 68)) : zlo f j = -2147483648 ∧ zhi f j = 2147483647 := by
  constructor
  · unfold zlo
    split <;> first | omega | rfl
  · unfold zhi
    split <;> first | omega | rfl
theorem zr_mid {f j : Nat} (h : (8 ≤ f ∧ f < 41) ∨ (52 ≤ f ∧ f < 68)) (v : Int32) : zr1 v (zlo f j) (zhi f j) := by
  rw [(zlo_mid h).1, (zlo_mid h).2]
  exact zr_any v
theorem step_ok (a b : Int32) : (cF_isStep a b = true ∧ mF_is a 0 6 = true ∧ mF_isNum a b = true ∧ zok6 a b = true) ∨ (¬ cF_isStep a b = true ∧ (mF_is a 0 6 = false ∨ (mF_is a 0 6 = true ∧ mF_isNum a b = false))) := by
  rcases rng_eq a 7 (by decide) 6 (by decide) with ⟨q, hq, rfl, h3⟩ | ⟨h3, h4⟩
  · have n1 : ∀ lo hi : Int32, mF_isNum (nI q) b = mF_is b lo hi → (cF_isStep (nI q) b = true ↔ ¬ b < lo ∧ ¬ hi < b) → (zok6 (nI q) b = true ∨ (lo = 0 ∧ hi = 5)) → (cF_isStep (nI q) b = true ∧ mF_is (nI q) 0 6 = true ∧ mF_isNum (nI q) b = true ∧ zok6 (nI q) b = true) ∨ (¬ cF_isStep (nI q) b = true ∧ (mF_is (nI q) 0 6 = false ∨ (mF_is (nI q) 0 6 = true ∧ mF_isNum (nI q) b = false))) := by
      intro lo hi e1 e2 e3
      rcases is_cases b lo hi with ⟨b1, b2, b3, b4, b5⟩ | ⟨b1, b2⟩
      · refine Or.inl ⟨e2.mpr ⟨b2, b3⟩, h3, e1.trans b1, ?_⟩
        rcases e3 with e3 | ⟨rfl, rfl⟩
        · exact e3
        · rw [show (0 : Int32).toInt = 0 from rfl] at b4
          rw [show (5 : Int32).toInt = 5 from rfl] at b5
          unfold zok6
          rw [decide_eq_true b4, decide_eq_true (show b.toInt < 6 by omega), Bool.and_true, Bool.or_true]
      · exact Or.inr ⟨fun e => by rcases b2 with b2 | b2; exact (e2.mp e).1 b2; exact (e2.mp e).2 b2.2, Or.inr ⟨h3, e1.trans b1⟩⟩
    have six : ∀ b : Int32, (b < 6) = ¬ (5 < b) := fun b => propext (by rw [i_lt, i_lt, show (6 : Int32).toInt = 6 from rfl, show (5 : Int32).toInt = 5 from rfl]; omega)
    have bb : ∀ c : Bool, (if c = true then true else false) = c := by decide
    have two : ∀ q, 2 ≤ q → q < 6 → mF_isNum (nI q) b = mF_is b 0 5 := by
      intro q g1 g2
      have k1 : ∀ q, q < 6 → 2 ≤ q → ¬ nI q = 6 ∧ (1 : Int32) < nI q ∧ ¬ nI q = 0 ∧ ¬ nI q = 1 := by decide
      obtain ⟨a1, a2, a3, a4⟩ := k1 q g2 g1
      unfold mF_isNum
      rw [if_neg a1, if_pos a2, if_neg a3, if_neg a4, bb]
    have st2 : ∀ c : Bool, c = (if b < 0 then false else if b < 6 then true else false) → (c = true ↔ ¬ b < 0 ∧ ¬ 5 < b) := by
      rintro _ rfl
      by_cases g : b < 0
      · rw [if_pos g]; exact ⟨fun e => absurd e (by decide), fun e => absurd g e.1⟩
      · rw [if_neg g]
        by_cases g2 : b < 6
        · rw [if_pos g2]; rw [six] at g2; exact ⟨fun _ => ⟨g, g2⟩, fun _ => rfl⟩
        · rw [if_neg g2]; rw [six] at g2; exact ⟨fun e => absurd e (by decide), fun e => absurd e.2 g2⟩
    have st1 : ∀ (c : Bool) (hi : Int32), c = (if b < 1 then false else if hi < b then false else true) → (c = true ↔ ¬ b < 1 ∧ ¬ hi < b) := by
      rintro _ hi rfl
      by_cases g : b < 1
      · rw [if_pos g]; exact ⟨fun e => absurd e (by decide), fun e => absurd g e.1⟩
      · rw [if_neg g]
        by_cases g2 : hi < b
        · rw [if_pos g2]; exact ⟨fun e => absurd e (by decide), fun e => absurd g2 e.2⟩
        · rw [if_neg g2]; exact ⟨fun _ => ⟨g, g2⟩, fun _ => rfl⟩
    match q, hq with
    | 0, _ => exact n1 1 20 (by show (if _ then _ else _) = _; exact (bb _)) (st1 _ _ rfl) (Or.inl rfl)
    | 1, _ => exact n1 1 40 (by show (if _ then _ else _) = _; exact (bb _)) (st1 _ _ rfl) (Or.inl rfl)
    | 2, _ => exact n1 0 5 (two 2 (by decide) (by decide)) (st2 _ rfl) (Or.inr ⟨rfl, rfl⟩)
    | 3, _ => exact n1 0 5 (two 3 (by decide) (by decide)) (st2 _ rfl) (Or.inr ⟨rfl, rfl⟩)
    | 4, _ => exact n1 0 5 (two 4 (by decide) (by decide)) (st2 _ rfl) (Or.inr ⟨rfl, rfl⟩)
    | 5, _ => exact n1 0 5 (two 5 (by decide) (by decide)) (st2 _ rfl) (Or.inr ⟨rfl, rfl⟩)
    | 6, _ => exact Or.inl ⟨rfl, h3, rfl, rfl⟩
    | q + 7, h9 => exact absurd h9 (by omega)
  · refine Or.inr ⟨?_, Or.inl h3⟩
    have ne : ∀ k : Nat, k < 7 → ¬ a = nI k := fun k hk e => by rw [e, nI_rng (by omega)] at h4; omega
    have hz : cF_isStep a b = false := by
      unfold cF_isStep
      rw [if_neg (show ¬ a = 0 from ne 0 (by decide)), if_neg (show ¬ a = 1 from ne 1 (by decide)), if_neg (show ¬ a = 2 from ne 2 (by decide)), if_neg (show ¬ a = 3 from ne 3 (by decide)), if_neg (show ¬ a = 4 from ne 4 (by decide)), if_neg (show ¬ a = 5 from ne 5 (by decide)), if_neg (show ¬ a = 6 from ne 6 (by decide))]
    rw [hz]
    decide
theorem zI_app {n K i L : Nat} {C M : zSg} {a b : Int32} (h : zI n K C M) (hi : i < n) (h0 : M 41 i = 0) (hL : M 6 i = nI L) (hL16 : L < 16) (hz : zok6 a b = true) : zI n K (zup (zup (zup C (ztk i + 2) L a) (ztk i + 3) L b) (ztk i + 1) 1 (nI (L + 1))) (zup (zup (zup M (8 + i) L a) (25 + i) L b) 6 i (nI (L + 1))) := by
  have hn := zI_n h
  have p8 : ∀ j, zph (8 + i) j = (ztk i + 2, j) := fun j => zph_8 j (by omega)
  have p25 : ∀ j, zph (25 + i) j = (ztk i + 3, j) := fun j => zph_25 j (by omega)
  have e1 := zE_u (v := a) (w := a) hn (zI_E h) (f := 8 + i) (j := L) (by unfold zdm; omega) (p8 L) rfl
  have e2 := zE_u (v := b) (w := b) hn e1 (f := 25 + i) (j := L) (by unfold zdm; omega) (p25 L) rfl
  have e3 := zE_u (v := nI (L + 1)) (w := nI (L + 1)) hn e2 (f := 6) (j := i) (a := ztk i + 1) (b := 1) (by unfold zdm; omega) rfl rfl
  have w1 := zmW_up (zI_W h) (f := 8 + i) (j := L) (zr_mid (by omega) a)
  have w2 := zmW_up w1 (f := 25 + i) (j := L) (zr_mid (by omega) b)
  have w3 := zmW_up w2 (f := 6) (j := i) (v := nI (L + 1)) (show zr1 _ 0 16 by unfold zr1; rw [nI_rng (by omega)]; omega)
  have mo : ∀ f' j', ¬ (f' = 8 + i ∧ j' = L) → ¬ (f' = 25 + i ∧ j' = L) → ¬ (f' = 6 ∧ j' = i) → zup (zup (zup M (8 + i) L a) (25 + i) L b) 6 i (nI (L + 1)) f' j' = M f' j' := fun f' j' g1 g2 g3 => by rw [zup_o g3, zup_o g2, zup_o g1]
  have co : ∀ t b', zup (zup (zup C (ztk i + 2) L a) (ztk i + 3) L b) (ztk i + 1) 1 (nI (L + 1)) (ztk t) b' = C (ztk t) b' := fun t b' => by rw [zup_a (by unfold ztk; omega), zup_a (by unfold ztk; omega), zup_a (by unfold ztk; omega)]
  have cy : ∀ t b', zup (zup (zup C (ztk i + 2) L a) (ztk i + 3) L b) (ztk i + 1) 1 (nI (L + 1)) (ztk t + 4) b' = C (ztk t + 4) b' := fun t b' => by rw [zup_a (by unfold ztk; omega), zup_a (by unfold ztk; omega), zup_a (by unfold ztk; omega)]
  have c012 : zup (zup (zup C (ztk i + 2) L a) (ztk i + 3) L b) (ztk i + 1) 1 (nI (L + 1)) 0 12 = C 0 12 := by rw [zup_a (by omega), zup_a (by omega), zup_a (by omega)]
  have n8 : zup (zup (zup M (8 + i) L a) (25 + i) L b) 6 i (nI (L + 1)) (8 + i) L = a := by rw [zup_a (by omega), zup_a (by omega), zup_at]
  have n25 : zup (zup (zup M (8 + i) L a) (25 + i) L b) 6 i (nI (L + 1)) (25 + i) L = b := by rw [zup_a (by omega), zup_at]
  have n6 : zup (zup (zup M (8 + i) L a) (25 + i) L b) 6 i (nI (L + 1)) 6 i = nI (L + 1) := zup_at _ _ _ _
  generalize zup (zup (zup C (ztk i + 2) L a) (ztk i + 3) L b) (ztk i + 1) 1 (nI (L + 1)) = C' at e3 co cy c012 ⊢
  generalize zup (zup (zup M (8 + i) L a) (25 + i) L b) 6 i (nI (L + 1)) = M' at e3 w3 mo n8 n25 n6 ⊢
  obtain ⟨h1, h2, h3, h4, h5, h6, h7, h8, h9, h10, h11, h12⟩ := h
  refine ⟨⟨h1.1, by rw [mo 0 15 (by omega) (by omega) (by omega)]; exact h1.2⟩, e3, w3, fun t ht => by rw [co t 0]; exact h4 t ht, ?_, fun t ht => ?_, ?_, ?_, fun p t hp ht e => ?_, fun t ht e => ?_, fun t ht => ?_, ?_⟩
  · refine ⟨fun t g1 g2 => ?_, fun t ht => by rw [mo 5 t (by omega) (by omega) (by omega)]; exact h5.2 t ht⟩
    have := h5.1 t g1 g2
    refine ⟨by rw [mo 41 t (by omega) (by omega) (by omega)]; exact this.1, by rw [mo 6 t (by omega) (by omega) (by omega)]; exact this.2.1, fun j' hj => ?_⟩
    rw [mo (8 + t) j' (by omega) (by omega) (by omega), mo (25 + t) j' (by omega) (by omega) (by omega)]
    exact this.2.2 j' hj
  · have hT := h6 t ht
    have q41 := mo 41 t (by omega) (by omega) (by omega)
    have q42 := mo 42 t (by omega) (by omega) (by omega)
    have q43 := mo 43 t (by omega) (by omega) (by omega)
    have q46 := mo 46 t (by omega) (by omega) (by omega)
    have q48 := mo 48 t (by omega) (by omega) (by omega)
    have q49 := mo 49 t (by omega) (by omega) (by omega)
    have q5 := mo 5 t (by omega) (by omega) (by omega)
    have q52 := fun x => mo (52 + t) x (by omega) (by omega) (by omega)
    by_cases c : t = i
    · subst c
      obtain ⟨a1, a2, a3, a4, a5, a6, a7, a8⟩ := hT
      refine ⟨fun _ => by rw [co t 6, q42]; exact a1 (by rw [h0]; decide), fun g => ?_, fun g => ?_, fun g => ?_, fun g => ?_, fun g => ?_, fun s hs => ?_, fun _ => ?_⟩
      · rw [q41, h0] at g; exact absurd g (by decide)
      · rw [q41, h0] at g; exact absurd g (by decide)
      · rw [q41, h0] at g; exact absurd g (by decide)
      · rw [q41, h0] at g; exact absurd rfl g
      · rw [q41, h0] at g; exact absurd rfl g
      · rw [n6, zix (by omega)] at hs
        by_cases c2 : s = L
        · subst c2; rw [n8, n25]; exact hz
        · rw [mo (8 + t) s (by omega) (by omega) (by omega), mo (25 + t) s (by omega) (by omega) (by omega)]
          exact a7 s (by rw [hL, zix (by omega)]; omega)
      · rw [q42, q43, q46, co t 9]
        simp only [q52, cy t]
        exact a8 h0
    · have q6 := mo 6 t (by omega) (by omega) (by omega)
      have q8 := fun x => mo (8 + t) x (by omega) (by omega) (by omega)
      have q25 := fun x => mo (25 + t) x (by omega) (by omega) (by omega)
      unfold zTk at hT ⊢
      simp only [q41, q42, q43, q46, q48, q49, q5, q6, co t]
      simp only [q8, q25, q52, cy t]
      exact hT
  · have m10 := mo 0 10 (by omega) (by omega) (by omega)
    obtain ⟨a1, a2, a3, a4⟩ := h7
    refine ⟨by rw [c012]; exact a1, by rw [m10]; exact a2, fun t ht hs => ?_, fun t u ht hu hs hs2 => ?_⟩
    · rw [mo 41 t (by omega) (by omega) (by omega)] at hs
      rw [c012, m10, mo 50 t (by omega) (by omega) (by omega), co t 14]
      exact a3 t ht hs
    · rw [mo 41 t (by omega) (by omega) (by omega)] at hs
      rw [mo 41 u (by omega) (by omega) (by omega)] at hs2
      rw [mo 50 t (by omega) (by omega) (by omega), mo 50 u (by omega) (by omega) (by omega), co t 14, co u 14]
      exact a4 t u ht hu hs hs2
  · exact zOn_same h8 (mo 0 6 (by omega) (by omega) (by omega)) (fun p _ => mo 68 p (by omega) (by omega) (by omega)) (fun t _ => by rw [mo 41 t (by omega) (by omega) (by omega)])
  · rw [mo 68 p (by omega) (by omega) (by omega)] at e
    rw [mo 69 p (by omega) (by omega) (by omega), co t 12]
    exact h9 p t hp ht e
  · rw [mo 41 t (by omega) (by omega) (by omega)] at e
    rw [mo 49 t (by omega) (by omega) (by omega), mo 101 _ (by omega) (by omega) (by omega)]
    exact h10 t ht e
  · rw [mo 47 t (by omega) (by omega) (by omega)]
    exact h11 t ht
  · rw [mo 0 1 (by omega) (by omega) (by omega)]
    exact h12
theorem c_addStep {n K : Nat} {A M : zSg} (h : zQR n K A M) (t a b : Int32) : zAg LXAS K (cP_addStep A t a b) A (mP_addStep M t a b) := by
  have h0 := zQR_0 h 0
  rcases task_eq h0.1 t with ⟨i, hi, rfl, h1, h2⟩ | ⟨h1, h2⟩
  · have hn := zI_n h.1
    have hz : (zup M 0 0 0) 0 0 = 0 := zup_at M 0 0 0
    generalize hM0 : zup M 0 0 0 = M0 at h0 h1 hz
    have est := zI_st h0.1 (t := i) (by omega)
    have elen := ze_len (zI_E h0.1) (t := i) (by omega)
    have hlen : zr1 (M0 6 i) 0 16 := zI_W h0.1 6 i
    have bad : ∀ {R : zRs} {P} (E : String) (v : Int32), R = .inr E → P = mF_ref (zup M 0 0 0) v → E ∈ LXAS → v = eco LXAS E → zAg LXAS K R A P := fun E v e1 e2 e3 e4 => ag_x (by rw [hM0]; exact h0) e1 e2 e3 e4
    rcases step_ok a b with ⟨s1, s2, s3, s4⟩ | ⟨s1, s2⟩
    · by_cases c : M0 41 i = 0
      · by_cases c2 : M0 6 i = 16
        · refine bad eIS 3 ?_ (by unfold mP_addStep; rw [hM0, if_pos h1, if_pos s2, if_pos s3, zix (by omega), if_pos c, if_pos c2]) (by decide) (by decide)
          unfold cP_addStep
          rw [h2]
          dsimp only
          rw [if_pos s1, if_pos (by rw [est]; exact c), if_neg (by rw [elen, c2]; decide)]
        · have hl2 := hlen.2
          have hl1 := hlen.1
          obtain ⟨L, hL, eL⟩ : ∃ L, L < 16 ∧ M0 6 i = nI L := of_rng hlen.1 (by
            rcases Int.lt_or_eq_of_le hl2 with g | g
            · exact g
            · exact absurd (Int32.toInt_inj.mp (g.trans rfl)) c2)
          have g := zI_app h0.1 hi c eL hL s4
          have eC : cF_append A i a b = zup (zup (zup A (ztk i + 2) L a) (ztk i + 3) L b) (ztk i + 1) 1 (nI (L + 1)) := by
            have q1 : A (ztk i + 1) 1 = nI L := elen.trans eL
            unfold cF_append
            rw [q1, if_neg (nI_pos (by omega)), if_pos (zlt_T (x := 16) (by decide) hL)]
            dsimp only
            rw [zup_a (x := ztk i + 1) (by omega), q1, zix (by omega), zup_a (x := ztk i + 1) (by omega), zup_a (x := ztk i + 1) (by omega), q1, ← nI_1]
          have eM : mP_stepped M0 (nI i) a b = zup (zup (zup M0 (8 + i) L a) (25 + i) L b) 6 i (nI (L + 1)) := by
            unfold mP_stepped
            dsimp only
            rw [zix (by omega), eL, zix (by omega), zup_a (x := 6) (by omega), eL, zix (by omega), zup_a (x := 6) (by omega), zup_a (x := 6) (by omega), eL, ← nI_1]
          have hk : zKm M0 (mP_stepped M0 (nI i) a b) := by
            rw [eM]
            exact zKm_up (zKm_up (zKm_up (zKm_r M0) (by omega)) (by omega)) (by omega)
          have hc : zKc A (cF_append A i a b) := by
            rw [eC]
            exact zKc_up (zKc_up (zKc_up (zKc_r A) (by unfold ztk; omega)) (by unfold ztk; omega)) (by unfold ztk; omega)
          rw [← eC, ← eM] at g
          refine ag_c ⟨g, zTr_k h0.2 hc hk⟩ ((hk.1 0 (by decide)).trans hz) (v := (cF_append A i a b) (ztk i + 1) 1) ?_ (by unfold mP_addStep; rw [hM0, if_pos h1, if_pos s2, if_pos s3, zix (by omega), if_pos c, if_neg c2]) (ze_len (zI_E g) (by omega))
          unfold cP_addStep
          rw [h2]
          dsimp only
          rw [if_pos s1, if_pos (by rw [est]; exact c), if_pos (by rw [elen, eL]; exact zlt_T (x := 16) (by decide) hL)]
      · refine bad eIS 3 ?_ (by unfold mP_addStep; rw [hM0, if_pos h1, if_pos s2, if_pos s3, zix (by omega), if_neg c]) (by decide) (by decide)
        unfold cP_addStep
        rw [h2]
        dsimp only
        rw [if_pos s1, if_neg (by rw [est]; exact c)]
    · refine bad eIA 2 ?_ ?_ (by decide) (by decide)
      · unfold cP_addStep
        rw [h2]
        dsimp only
        rw [if_neg s1]
      · unfold mP_addStep
        rw [hM0, if_pos h1]
        rcases s2 with s2 | ⟨s2, s3⟩
        · rw [if_neg (ff s2)]
        · rw [if_pos s2, if_neg (ff s3)]
  · exact ag_x h0 (E := eIX) (v := 1) (by unfold cP_addStep; rw [h2]) (by unfold mP_addStep; rw [if_neg (ff h1)]) (by decide) (by decide)
