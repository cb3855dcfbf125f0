/-! The calls: a task more -/
theorem zE_up {n : Nat} {C M : zSg} (hn : n < 16) (h : zE n C M) (h5 : C (ztk n + 1) 0 = M 5 n) (h45 : C (ztk n) 9 = M 45 n) (h52 : ∀ j, j < 5 → C (ztk n + 4) j = M (52 + n) j) : zE (n + 1) C M := by
  intro f j hd
  by_cases c : zdm n f j
  · exact h f j c
  · have : (f = 5 ∧ j = n) ∨ (f = 45 ∧ j = n) ∨ (f = 52 + n ∧ j < 5) := by
      rcases hd with x | x | x | ⟨x, hj⟩ | x | x | ⟨x1, x2, hj⟩ | x | x
      · exact absurd (Or.inl x) c
      · exact absurd (Or.inr (Or.inl x)) c
      · exact absurd (Or.inr (Or.inr (Or.inl x))) c
      · by_cases g : j < n
        · exact absurd (Or.inr (Or.inr (Or.inr (Or.inl ⟨x, g⟩)))) c
        · rcases x with x | x
          · exact Or.inl ⟨x, by omega⟩
          · exact Or.inr (Or.inl ⟨x, by omega⟩)
      · exact absurd (Or.inr (Or.inr (Or.inr (Or.inr (Or.inl x))))) c
      · exact absurd (Or.inr (Or.inr (Or.inr (Or.inr (Or.inr (Or.inl x)))))) c
      · by_cases g : f < 52 + n
        · exact absurd (Or.inr (Or.inr (Or.inr (Or.inr (Or.inr (Or.inr (Or.inl ⟨x1, g, hj⟩))))))) c
        · exact Or.inr (Or.inr ⟨by omega, hj⟩)
      · exact absurd (Or.inr (Or.inr (Or.inr (Or.inr (Or.inr (Or.inr (Or.inr (Or.inl x)))))))) c
      · exact absurd (Or.inr (Or.inr (Or.inr (Or.inr (Or.inr (Or.inr (Or.inr (Or.inr x)))))))) c
    rcases this with ⟨rfl, rfl⟩ | ⟨rfl, rfl⟩ | ⟨rfl, hj⟩
    · exact h5
    · exact h45
    · rw [zph_52 j hn]
      exact h52 j hj
theorem zps_p (n : Nat) : zps (ztk n + 1) 0 = (5, n) := zps_t n 1 0 (by decide)
theorem zI_add {n K : Nat} {C M : zSg} {a b c : Int32} (h : zI n K C M) (hn16 : n < 16) (ha : 0 ≤ a.toInt ∧ a.toInt ≤ 7) (hb : 0 ≤ b.toInt ∧ b.toInt ≤ 3) (hc : 1 ≤ c.toInt) : zI (n + 1) K (zup (zup (zup (zup C (ztk n) 3 a) (ztk n) 4 b) (ztk n + 1) 0 c) 0 10 (nI (n + 1))) (zup (zup (zup (zup (zup (zup (zup M 3 n a) 4 n b) 5 n c) 45 n (-1)) (52 + n) 3 (-1)) (52 + n) 4 (-1)) 0 15 (nI (n + 1))) := by
  have hn := zI_n h
  have hs0 : M 41 n = 0 := zI_H h (Nat.le_refl n) hn16
  obtain ⟨n1, n2, n3, n4, n5, n6, n7⟩ := (h.2.2.2.2.2.1 n hn16).2.2.2.2.2.2.2 hs0
  have nd5 : ¬ zdm n 5 n := by unfold zdm; omega
  have nd45 : ¬ zdm n 45 n := by unfold zdm; omega
  have nd52 : ∀ j, ¬ zdm n (52 + n) j := fun j => by unfold zdm; omega
  have e1 := zE_u (v := a) (w := a) hn (zI_E h) (f := 3) (j := n) (a := ztk n) (b := 3) (by unfold zdm; omega) rfl rfl
  have e2 := zE_u (v := b) (w := b) hn e1 (f := 4) (j := n) (a := ztk n) (b := 4) (by unfold zdm; omega) rfl rfl
  have e3 := zE_c (v := c) hn e2 (a := ztk n + 1) (b := 0) (by rw [zps_p]; exact nd5)
  have e4 := zE_m (v := c) e3 nd5
  have e5 := zE_m (v := -1) e4 nd45
  have e6 := zE_m (v := -1) e5 (nd52 3)
  have e7 := zE_m (v := -1) e6 (nd52 4)
  have e8 := zE_u (v := nI (n + 1)) (w := nI (n + 1)) hn e7 (f := 0) (j := 15) (a := 0) (b := 10) (by unfold zdm; omega) rfl rfl
  have w1 := zmW_up (zI_W h) (f := 3) (j := n) (v := a) ha
  have w2 := zmW_up w1 (f := 4) (j := n) (v := b) hb
  have w3 := zmW_up w2 (f := 5) (j := n) (v := c) (zr_any _)
  have w4 := zmW_up w3 (f := 45) (j := n) (v := -1) (zr_any _)
  have w5 := zmW_up w4 (f := 52 + n) (j := 3) (v := -1) (zr_mid (by omega) _)
  have w6 := zmW_up w5 (f := 52 + n) (j := 4) (v := -1) (zr_mid (by omega) _)
  have w7 := zmW_up w6 (f := 0) (j := 15) (v := nI (n + 1)) (show zr1 _ 0 16 by unfold zr1; rw [nI_rng (by omega)]; omega)
  have mo : ∀ f j, ¬ (f = 3 ∧ j = n) → ¬ (f = 4 ∧ j = n) → ¬ (f = 5 ∧ j = n) → ¬ (f = 45 ∧ j = n) → ¬ (f = 52 + n ∧ (j = 3 ∨ j = 4)) → ¬ (f = 0 ∧ j = 15) → zup (zup (zup (zup (zup (zup (zup M 3 n a) 4 n b) 5 n c) 45 n (-1)) (52 + n) 3 (-1)) (52 + n) 4 (-1)) 0 15 (nI (n + 1)) f j = M f j := fun f j g1 g2 g3 g4 g5 g6 => by
    rw [zup_o g6, zup_o (fun e => g5 ⟨e.1, Or.inr e.2⟩), zup_o (fun e => g5 ⟨e.1, Or.inl e.2⟩), zup_o g4, zup_o g3, zup_o g2, zup_o g1]
  have co : ∀ x y, ¬ (x = ztk n ∧ (y = 3 ∨ y = 4)) → ¬ (x = ztk n + 1 ∧ y = 0) → ¬ (x = 0 ∧ y = 10) → zup (zup (zup (zup C (ztk n) 3 a) (ztk n) 4 b) (ztk n + 1) 0 c) 0 10 (nI (n + 1)) x y = C x y := fun x y g1 g2 g3 => by
    rw [zup_o g3, zup_o g2, zup_o (fun e => g1 ⟨e.1, Or.inr e.2⟩), zup_o (fun e => g1 ⟨e.1, Or.inl e.2⟩)]
  have v5 : zup (zup (zup (zup (zup (zup (zup M 3 n a) 4 n b) 5 n c) 45 n (-1)) (52 + n) 3 (-1)) (52 + n) 4 (-1)) 0 15 (nI (n + 1)) 5 n = c := by
    rw [zup_a (by decide), zup_a (by omega), zup_a (by omega), zup_a (by decide), zup_at]
  have v45 : zup (zup (zup (zup (zup (zup (zup M 3 n a) 4 n b) 5 n c) 45 n (-1)) (52 + n) 3 (-1)) (52 + n) 4 (-1)) 0 15 (nI (n + 1)) 45 n = -1 := by
    rw [zup_a (by decide), zup_a (by omega), zup_a (by omega), zup_at]
  have v523 : zup (zup (zup (zup (zup (zup (zup M 3 n a) 4 n b) 5 n c) 45 n (-1)) (52 + n) 3 (-1)) (52 + n) 4 (-1)) 0 15 (nI (n + 1)) (52 + n) 3 = -1 := by
    rw [zup_a (by omega), zup_b (by decide), zup_at]
  have v524 : zup (zup (zup (zup (zup (zup (zup M 3 n a) 4 n b) 5 n c) 45 n (-1)) (52 + n) 3 (-1)) (52 + n) 4 (-1)) 0 15 (nI (n + 1)) (52 + n) 4 = -1 := by
    rw [zup_a (by omega), zup_at]
  have vc : zup (zup (zup (zup C (ztk n) 3 a) (ztk n) 4 b) (ztk n + 1) 0 c) 0 10 (nI (n + 1)) (ztk n + 1) 0 = c := by
    rw [zup_a (by omega), zup_at]
  have v15 : zup (zup (zup (zup (zup (zup (zup M 3 n a) 4 n b) 5 n c) 45 n (-1)) (52 + n) 3 (-1)) (52 + n) 4 (-1)) 0 15 (nI (n + 1)) 0 15 = nI (n + 1) := zup_at _ _ _ _
  generalize zup (zup (zup (zup C (ztk n) 3 a) (ztk n) 4 b) (ztk n + 1) 0 c) 0 10 (nI (n + 1)) = C' at e8 co vc ⊢
  generalize zup (zup (zup (zup (zup (zup (zup M 3 n a) 4 n b) 5 n c) 45 n (-1)) (52 + n) 3 (-1)) (52 + n) 4 (-1)) 0 15 (nI (n + 1)) = M' at e8 w7 mo v5 v45 v523 v524 v15 ⊢
  have ct : ∀ t y, ¬ (y = 3 ∨ y = 4) → C' (ztk t) y = C (ztk t) y := fun t y hy => co _ _ (fun e => hy e.2) (by unfold ztk; omega) (by unfold ztk; omega)
  have cy : ∀ t y, C' (ztk t + 4) y = C (ztk t + 4) y := fun t y => co _ _ (by unfold ztk; omega) (by unfold ztk; omega) (by unfold ztk; omega)
  have q : ∀ f j, f = 6 ∨ f = 41 ∨ f = 42 ∨ f = 43 ∨ f = 46 ∨ f = 47 ∨ f = 48 ∨ f = 49 ∨ f = 50 ∨ f = 68 ∨ f = 69 ∨ f = 101 ∨ (8 ≤ f ∧ f < 41) → M' f j = M f j := fun f j hf => mo f j (by omega) (by omega) (by omega) (by omega) (by omega) (by omega)
  have c012 : C' 0 12 = C 0 12 := co 0 12 (by unfold ztk; omega) (by omega) (by omega)
  have m010 : M' 0 10 = M 0 10 := mo 0 10 (by omega) (by omega) (by omega) (by omega) (by omega) (by omega)
  have m06 : M' 0 6 = M 0 6 := mo 0 6 (by omega) (by omega) (by omega) (by omega) (by omega) (by omega)
  have m01 : M' 0 1 = M 0 1 := mo 0 1 (by omega) (by omega) (by omega) (by omega) (by omega) (by omega)
  have eE : zE (n + 1) C' M' := zE_up hn16 e8 (vc.trans v5.symm) ((ct n 9 (by omega)).trans (n4.trans v45.symm)) (fun j hj => by
    rw [cy n j]
    by_cases j3 : j < 3
    · rw [(n5 j j3).1, mo _ _ (by omega) (by omega) (by omega) (by omega) (by omega) (by omega), (n5 j j3).2]
    · by_cases j4 : j = 3
      · subst j4; rw [n6, v523]
      · obtain rfl : j = 4 := by omega
        rw [n7, v524])
  obtain ⟨h1, h2, h3, h4, h5, h6, h7, h8, h9, h10, h11, h12⟩ := h
  have lt1 : ∀ t, t < n + 1 → ¬ M 41 t = 0 → t < n := fun t ht hs => by
    rcases Nat.lt_succ_iff_lt_or_eq.mp ht with g | g
    · exact g
    · rw [g] at hs; exact absurd hs0 hs
  refine ⟨⟨by omega, v15⟩, eE, w7, fun t ht => by rw [ct t 0 (by omega)]; exact h4 t ht, ?_, fun t ht => ?_, ?_, ?_, fun p t hp ht e => ?_, fun t ht e => ?_, fun t ht => ?_, by rw [m01]; exact h12⟩
  · refine ⟨fun t g1 g2 => ?_, fun t ht => ?_⟩
    · have := h5.1 t (by omega) g2
      refine ⟨by rw [q 41 t (by omega)]; exact this.1, by rw [q 6 t (by omega)]; exact this.2.1, fun j hj => ?_⟩
      rw [q (8 + t) j (by omega), q (25 + t) j (by omega)]
      exact this.2.2 j hj
    · by_cases g : t = n
      · subst g; rw [v5]; exact hc
      · rw [mo 5 t (by omega) (by omega) (by omega) (by omega) (by omega) (by omega)]
        exact h5.2 t (by omega)
  · have hT := h6 t ht
    have q41 := q 41 t (by omega)
    have q42 := q 42 t (by omega)
    have q43 := q 43 t (by omega)
    have q46 := q 46 t (by omega)
    have q48 := q 48 t (by omega)
    have q49 := q 49 t (by omega)
    have q6 := q 6 t (by omega)
    have q8 := fun x => q (8 + t) x (by omega)
    have q25 := fun x => q (25 + t) x (by omega)
    obtain ⟨a1, a2, a3, a4, a5, a6, a7, a8⟩ := hT
    refine ⟨?_, ?_, ?_, ?_, ?_, ?_, ?_, ?_⟩
    · rw [q41, ct t 6 (by omega), q42]; exact a1
    · rw [q41, q42, q6]; exact a2
    · rw [q41, ct t 13 (by omega), q48]; exact a3
    · rw [q41, ct t 13 (by omega), q49, q42, q8]; exact a4
    · rw [q41, q42, q6, q8]; exact a5
    · rw [q41]
      by_cases g : t = n
      · rw [g]; exact fun g0 => absurd hs0 g0
      · rw [q43, mo 5 t (by omega) (by omega) (by omega) (by omega) (by omega) (by omega)]; exact a6
    · rw [q6]
      intro s hs
      rw [q8, q25]; exact a7 s hs
    · intro g0
      rw [q41] at g0
      obtain ⟨b1, b2, b3, b4, b5, b6, b7⟩ := a8 g0
      refine ⟨by rw [q42]; exact b1, by rw [q43]; exact b2, by rw [q46]; exact b3, by rw [ct t 9 (by omega)]; exact b4, fun j hj => ⟨by rw [cy]; exact (b5 j hj).1, ?_⟩, by rw [cy]; exact b6, by rw [cy]; exact b7⟩
      rw [mo _ _ (by omega) (by omega) (by omega) (by omega) (by omega) (by omega)]
      exact (b5 j hj).2
  · obtain ⟨a1, a2, a3, a4⟩ := h7
    have st : ∀ t, M' 41 t = 4 ∨ M' 41 t = 5 → ¬ M 41 t = 0 := fun t hs g => by
      rw [q 41 t (by omega), g] at hs
      exact absurd hs (by decide)
    refine ⟨by rw [c012]; exact a1, by rw [m010]; exact a2, fun t ht hs => ?_, fun t u ht hu hs hs2 => ?_⟩
    · have ht' := lt1 t ht (st t hs)
      rw [q 41 t (by omega)] at hs
      rw [c012, m010, q 50 t (by omega), ct t 14 (by omega)]
      exact a3 t ht' hs
    · have ht' := lt1 t ht (st t hs)
      have hu' := lt1 u hu (st u hs2)
      rw [q 41 t (by omega)] at hs
      rw [q 41 u (by omega)] at hs2
      rw [q 50 t (by omega), q 50 u (by omega), ct t 14 (by omega), ct u 14 (by omega)]
      exact a4 t u ht' hu' hs hs2
  · obtain ⟨o1, o2, o3, o4⟩ := h8
    refine ⟨fun t ht hs => ?_, fun p hp hm => ?_, fun p p2 hp hp2 e hm => ?_, fun p hp h9 => ?_⟩
    · rw [q 41 t (by omega)] at hs
      obtain ⟨p, hp, e⟩ := o1 t (lt1 t ht (by rw [hs]; decide)) hs
      exact ⟨p, hp, by rw [q 68 p (by omega)]; exact e⟩
    · rw [q 68 p (by omega)] at hm ⊢
      obtain ⟨t, ht, e, hs⟩ := o2 p hp hm
      exact ⟨t, by omega, e, by rw [q 41 t (by omega)]; exact hs⟩
    · rw [q 68 p (by omega), q 68 p2 (by omega)] at e
      rw [q 68 p (by omega)] at hm
      exact o3 p p2 hp hp2 e hm
    · rw [m06] at h9
      rw [q 68 p (by omega)]; exact o4 p hp h9
  · rw [q 68 p (by omega)] at e
    have hne : ¬ M 68 p = -1 := by rw [e]; exact nI_nm t (by omega)
    obtain ⟨t', ht', e', hs⟩ := h8.2.1 p hp hne
    have ett : t = t' := nI_inj (by omega) (by omega) (e.symm.trans e')
    rw [q 69 p (by omega), ct t 12 (by omega)]
    exact h9 p t hp (by omega) e
  · rw [q 41 t (by omega)] at e
    rw [q 49 t (by omega), q 101 _ (by omega)]
    exact h10 t (lt1 t ht (by rw [e]; decide)) e
  · rw [q 47 t (by omega)]
    exact h11 t ht
theorem c_addTask {n K : Nat} {A M : zSg} (h : zQR n K A M) (a b c : Int32) : zAg LAS K (cP_addTask A a b c) A (mP_addTask M a b c) := by
  have h0 := zQR_0 h 0
  have hz : (zup M 0 0 0) 0 0 = 0 := zup_at M 0 0 0
  generalize hM0 : zup M 0 0 0 = M0 at h0 hz
  have hn := zI_n h.1
  have bad : ∀ {R : zRs} {P} (E : String) (v : Int32), R = .inr E → P = mF_ref (zup M 0 0 0) v → E ∈ LAS → v = eco LAS E → zAg LAS K R A P := fun E v e1 e2 e3 e4 => ag_x (by rw [hM0]; exact h0) e1 e2 e3 e4
  rcases rng_eq a 8 (by decide) 7 (by decide) with ⟨qa, ha, rfl, h3⟩ | ⟨h3, h4⟩
  · rcases rng_eq b 4 (by decide) 3 (by decide) with ⟨qb, hb, rfl, h5⟩ | ⟨h5, h6⟩
    · rcases is_cases c 1 5 with ⟨c1, c2, c3, c4, c5⟩ | ⟨c1, c2⟩
      · have e10 : A 0 10 = nI n := (ze_n (zI_E h0.1)).trans h0.1.1.2
        have e15 : M0 0 15 = nI n := h0.1.1.2
        have hcl : cP_addTask A (nI qa) (nI qb) c = (match cF_at (A 0 10) with
            | none => .inr eIS
            | some i => .inl (zup (zup (zup (zup A (ztk i) 3 (nI qa)) (ztk i) 4 (nI qb)) (ztk i + 1) 0 c) 0 10 (A 0 10 + 1), A 0 10)) := by
          unfold cP_addTask
          rw [if_neg (nI_pos (by omega)), if_pos (zlt_T (x := 8) (by decide) ha), if_neg (nI_pos (by omega)), if_pos (zlt_T (x := 4) (by decide) hb), if_neg c2, if_neg c3]
          cases cF_at (A 0 10) <;> rfl
        by_cases g : n = 16
        · subst g
          refine bad eIS 2 (by rw [hcl, e10]; rfl) ?_ (by decide) (by decide)
          unfold mP_addTask
          rw [hM0, if_pos h3, if_pos h5, if_pos c1, if_pos (by rw [e15]; rfl)]
        · have hn16 : n < 16 := by omega
          have gI := zI_add (a := nI qa) (b := nI qb) (c := c) h0.1 hn16 (by rw [nI_rng (by omega)]; omega) (by rw [nI_rng (by omega)]; omega) (by rw [show (1 : Int32).toInt = 1 from rfl] at c4; exact c4)
          have eM : mP_added M0 (nI qa) (nI qb) c = zup (zup (zup (zup (zup (zup (zup M0 3 n (nI qa)) 4 n (nI qb)) 5 n c) 45 n (-1)) (52 + n) 3 (-1)) (52 + n) 4 (-1)) 0 15 (nI (n + 1)) := by
            have x3 : ix (3 : Int32) = 3 := rfl
            have x4 : ix (4 : Int32) = 4 := rfl
            unfold mP_added
            dsimp only
            rw [e15, zix (by omega), zup_a (x := 0) (a := 3) (by decide), e15, zix (by omega)]
            rw [zup_a (x := 0) (a := 4) (by decide), zup_a (x := 0) (a := 3) (by decide), e15, zix (by omega)]
            rw [zup_a (x := 0) (a := 5) (by decide), zup_a (x := 0) (a := 4) (by decide), zup_a (x := 0) (a := 3) (by decide), e15, zix (by omega)]
            rw [zup_a (x := 0) (a := 45) (by decide), zup_a (x := 0) (a := 5) (by decide), zup_a (x := 0) (a := 4) (by decide), zup_a (x := 0) (a := 3) (by decide), e15, zix (by omega)]
            rw [zup_a (x := 0) (a := 52 + n) (by omega), zup_a (x := 0) (a := 45) (by decide), zup_a (x := 0) (a := 5) (by decide), zup_a (x := 0) (a := 4) (by decide), zup_a (x := 0) (a := 3) (by decide), e15, zix (by omega), x3, x4]
            rw [zup_a (x := 0) (a := 52 + n) (by omega), zup_a (x := 0) (a := 52 + n) (by omega), zup_a (x := 0) (a := 45) (by decide), zup_a (x := 0) (a := 5) (by decide), zup_a (x := 0) (a := 4) (by decide), zup_a (x := 0) (a := 3) (by decide), e15, ← nI_1]
          have eC : zup (zup (zup (zup A (ztk n) 3 (nI qa)) (ztk n) 4 (nI qb)) (ztk n + 1) 0 c) 0 10 (A 0 10 + 1) = zup (zup (zup (zup A (ztk n) 3 (nI qa)) (ztk n) 4 (nI qb)) (ztk n + 1) 0 c) 0 10 (nI (n + 1)) := by
            rw [e10, ← nI_1]
          have hk : zKm M0 (mP_added M0 (nI qa) (nI qb) c) := by
            rw [eM]
            exact zKm_up (zKm_up (zKm_up (zKm_up (zKm_up (zKm_up (zKm_up (zKm_r M0) (by omega)) (by omega)) (by omega)) (by omega)) (by omega)) (by omega)) (by omega)
          have hc : zKc A (zup (zup (zup (zup A (ztk n) 3 (nI qa)) (ztk n) 4 (nI qb)) (ztk n + 1) 0 c) 0 10 (nI (n + 1))) := zKc_up (zKc_up (zKc_ut (zKc_ut (zKc_r A))) (by unfold ztk; omega)) (by omega)
          rw [← eM] at gI
          refine ag_c ⟨gI, zTr_k h0.2 hc hk⟩ ((hk.1 0 (by decide)).trans hz) (v := A 0 10) (by rw [hcl, e10, cF_at_nI hn16]; dsimp only; rw [← nI_1]) (by unfold mP_addTask; rw [hM0, if_pos h3, if_pos h5, if_pos c1, if_neg (by rw [e15]; intro e9; have := congrArg Int32.toInt e9; rw [nI_rng (by omega), show (16 : Int32).toInt = 16 from rfl] at this; omega)]) ?_
          rw [gI.1.2, e10, ← nI_1, Int32.add_sub_cancel]
      · refine bad eIA 1 ?_ (by unfold mP_addTask; rw [hM0, if_pos h3, if_pos h5, if_neg (ff c1)]) (by decide) (by decide)
        unfold cP_addTask
        rw [if_neg (nI_pos (by omega)), if_pos (zlt_T (x := 8) (by decide) ha), if_neg (nI_pos (by omega)), if_pos (zlt_T (x := 4) (by decide) hb)]
        rcases c2 with c2 | ⟨c2, c3⟩
        · rw [if_pos c2]
        · rw [if_neg c2, if_pos c3]
    · refine bad eIA 1 ?_ (by unfold mP_addTask; rw [hM0, if_pos h3, if_neg (ff h5)]) (by decide) (by decide)
      unfold cP_addTask
      rw [if_neg (nI_pos (by omega)), if_pos (zlt_T (x := 8) (by decide) ha)]
      by_cases c : b < 0
      · rw [if_pos c]
      · rw [if_neg c, if_neg]
        rw [i_lt, show (0 : Int32).toInt = 0 from rfl] at c
        rw [i_lt, show (4 : Int32).toInt = 4 from rfl]
        omega
  · refine bad eIA 1 ?_ (by unfold mP_addTask; rw [hM0, if_neg (ff h3)]) (by decide) (by decide)
    unfold cP_addTask
    by_cases c : a < 0
    · rw [if_pos c]
    · rw [if_neg c, if_neg]
      rw [i_lt, show (0 : Int32).toInt = 0 from rfl] at c
      rw [i_lt, show (8 : Int32).toInt = 8 from rfl]
      omega
