/-! The relation: a whole tick -/
theorem zI_loop {n K f : Nat} {ds di da : Int32} {C M : zSg} (h : zI n K C M) (hK : K + 3 ≤ 190000) (hf : 16 < f) (hl : zLp 0 (ix (M 0 1) % 30) K ds di da C M C M) :
    ∃ M', mT_pl f (ix (M 0 6)) 0 M = some M' ∧ zI n (K + 3) ((List.range 3).foldl (fun s k => cB_run k s) C) M' ∧ zLp 3 (ix (M 0 1) % 30) (K + 3) ds di da C M ((List.range 3).foldl (fun s k => cB_run k s) C) M' ∧ zk M M' ∧ M' 0 1 = M 0 1 ∧ M' 0 0 = M 0 0 := by
  have hP := zmW_p3 (zI_W h)
  have s1 : ∀ m, m ≤ ix (M 0 6) → ∃ Mm, mT_pl f (ix (M 0 6)) 0 M = mT_pl f (ix (M 0 6) - m) m Mm ∧ zI n (K + m) ((List.range m).foldl (fun s k => cB_run k s) C) Mm ∧ zLp m (ix (M 0 1) % 30) (K + m) ds di da C M ((List.range m).foldl (fun s k => cB_run k s) C) Mm ∧ zk M Mm ∧ Mm 0 1 = M 0 1 ∧ Mm 0 0 = M 0 0 := by
    intro m
    induction m with
    | zero => intro _; exact ⟨M, rfl, h, hl, zk_r (zI_W h), rfl, rfl⟩
    | succ m ih =>
      intro hm
      obtain ⟨Mm, e1, g1, g2, g3, g4, g40⟩ := ih (by omega)
      have e6 : Mm 0 6 = M 0 6 := g3.2 0 6 rfl
      obtain ⟨r, r1, r2, r3, r4, r5, r50⟩ := zI_proc (m := m) (f := f) g1 (by omega) (by omega) (by rw [e6]; omega) hf (by rw [g4]; exact g2)
      refine ⟨mT_aft r.1 m (Mm 68 m) r.2, ?_, ?_, ?_, zk_t g3 r4, r5.trans g4, r50.trans g40⟩
      · rw [e1, show ix (M 0 6) - m = (ix (M 0 6) - (m + 1)) + 1 by omega, mT_pl, r1]
        rfl
      · rw [List.range_succ, List.foldl_append]
        exact r2
      · rw [List.range_succ, List.foldl_append]
        rw [g4] at r3
        exact r3
  obtain ⟨M1, e1, g1, g2, g3, g4, g40⟩ := s1 _ (Nat.le_refl _)
  have e6 : M1 0 6 = M 0 6 := g3.2 0 6 rfl
  have s2 : ∀ d, ix (M 0 6) + d ≤ 3 → zI n (K + 3) ((List.range (ix (M 0 6) + d)).foldl (fun s k => cB_run k s) C) M1 ∧ zLp (ix (M 0 6) + d) (ix (M 0 1) % 30) (K + 3) ds di da C M ((List.range (ix (M 0 6) + d)).foldl (fun s k => cB_run k s) C) M1 := by
    intro d
    induction d with
    | zero =>
      intro _
      refine ⟨zI_le g1 (by omega), ?_⟩
      obtain ⟨a, b, c, d9, e, f9⟩ := g2
      exact ⟨a, b, c, d9, e, by omega⟩
    | succ d ih =>
      intro hd
      obtain ⟨i1, i2⟩ := ih (by omega)
      rw [show ix (M 0 6) + (d + 1) = (ix (M 0 6) + d) + 1 by omega, List.range_succ, List.foldl_append]
      generalize (List.range (ix (M 0 6) + d)).foldl (fun s k => cB_run k s) C = C1 at i1 i2
      show zI n (K + 3) (cB_run (ix (M 0 6) + d) C1) M1 ∧ zLp (ix (M 0 6) + d + 1) (ix (M 0 1) % 30) (K + 3) ds di da C M (cB_run (ix (M 0 6) + d) C1) M1
      have hm3 : ix (M 0 6) + d < 3 := by omega
      have e68 : M1 68 (ix (M 0 6) + d) = -1 := (zI_O i1).2.2.2 _ hm3 (by rw [e6]; omega)
      have ht0 : 0 ≤ (M1 0 1).toInt := (zI_K i1).1
      have e10 : cF_note C1 (nI (ix (M 0 6) + d)) (C1 0 9) (-1) 1 0 = M1 0 6 := (zCq_note (C := C1) (v := -1) hm3 (by rw [ze_clk (zI_E i1)]; exact ht0) 1 0 (by unfold zQs; omega)).trans (ze_pr (zI_E i1))
      have hlt : ¬ nI (ix (M 0 6) + d) < M1 0 6 := fun e => by
        have := (lt_ix (zmW_p (zI_W i1)) (by omega)).mp e
        rw [e6] at this
        omega
      have eB : cB_run (ix (M 0 6) + d) C1 = cF_note C1 (nI (ix (M 0 6) + d)) (M1 0 1) (-1) := by
        unfold cB_run
        rw [ze_on (zI_E i1) hm3, e68, cF_at_m1]
        show (if nI (ix (M 0 6) + d) < cF_note C1 (nI (ix (M 0 6) + d)) (C1 0 9) (-1) 1 0 then _ else cF_note C1 (nI (ix (M 0 6) + d)) (C1 0 9) (-1)) = _
        rw [e10, if_neg hlt, ze_clk (zI_E i1)]
      rw [eB]
      refine ⟨zI_q i1 (zCq_note hm3 ht0), ?_⟩
      rw [← g4] at i2 ⊢
      exact zLp_none hm3 ht0 i2
  obtain ⟨f1, f2⟩ := s2 (3 - ix (M 0 6)) (by omega)
  rw [show ix (M 0 6) + (3 - ix (M 0 6)) = 3 by omega] at f1 f2
  refine ⟨M1, ?_, f1, f2, g3, g4, g40⟩
  rw [e1, Nat.sub_self]
  rfl
theorem zif_add (c : Prop) [Decidable c] (A : zSg) (a k : Nat) : (if c then zup A a k (A a k + 1) else A) = zup A a k (A a k + (if c then 1 else 0)) := by
  by_cases h : c
  · rw [if_pos h, if_pos h]
  · rw [if_neg h, if_neg h, Int32.add_zero, zup_self]
theorem zI_cw {n K : Nat} {C M : zSg} (h : zI n K C M) : zI n K (cF_cw C) (mT_cw M) := by
  have hn := zI_n h
  unfold cF_cw mT_cw
  rw [zI_ix h]
  refine q_fold2 (R := fun _ C M => zI n K C M) (fun k s => cB_cw k s) (fun k s => mB_cw k s) 16 n hn h (fun k C M hk h => ?_) (fun k C M h1 h2 h => ?_)
  · by_cases c0 : M 41 k = 0
    · have e5 : C (ztk k) 5 = 0 := (zI_st h (by omega)).trans c0
      have eC : cB_cw k C = C := by
        have e0 : cB_cw k C = (fun M1 : zSg => if M1 (ztk k) 5 = 4 then zup M1 (ztk k + 4) 2 (M1 (ztk k + 4) 2 + 1) else M1) (if C (ztk k) 5 = 1 then zup C (ztk k + 4) 1 (C (ztk k + 4) 1 + 1) else C) := rfl
        rw [e0, e5, if_neg (by decide)]
        show (if C (ztk k) 5 = 4 then _ else C) = C
        rw [e5, if_neg (by decide)]
      have eM : mB_cw k M = M := by
        have z0 : (if M 41 k = 1 then (1 : Int32) else 0) = 0 := if_neg (by rw [c0]; decide)
        have z1 : zup M (52 + k) (ix 1) (M (52 + k) (ix 1) + (if M 41 k = 1 then 1 else 0)) = M := by rw [z0, Int32.add_zero, zup_self]
        unfold mB_cw
        rw [z1]
        show zup M (52 + k) (ix 2) (M (52 + k) (ix 2) + (if M 41 k = 4 then 1 else 0)) = M
        rw [c0, if_neg (by decide), Int32.add_zero, zup_self]
      show zI n K (cB_cw k C) (mB_cw k M)
      rw [eC, eM]
      exact h
    have s1 : zI n K (zup C (ztk k + 4) 1 (C (ztk k + 4) 1 + (if C (ztk k) 5 = 1 then 1 else 0))) (zup M (52 + k) 1 (M (52 + k) 1 + (if M 41 k = 1 then 1 else 0))) := zI_pl h (f := 52 + k) (j := 1) (by unfold zdm; omega) (zph_52 1 (by omega)) (by omega) (zcfg_cnt k 1 (by omega)) (zcnt_rg (by omega) _ _) (by rw [ze_cnt hn (zI_E h) hk (by decide), zI_st h (by omega)]) ⟨fun e => by omega, fun e => by exfalso; omega, fun t ht9 e => by rw [show t = k by omega]; exact c0⟩
    have eC : cB_cw k C = zup (zup C (ztk k + 4) 1 (C (ztk k + 4) 1 + (if C (ztk k) 5 = 1 then 1 else 0))) (ztk k + 4) 2 (zup C (ztk k + 4) 1 (C (ztk k + 4) 1 + (if C (ztk k) 5 = 1 then 1 else 0)) (ztk k + 4) 2 + (if zup C (ztk k + 4) 1 (C (ztk k + 4) 1 + (if C (ztk k) 5 = 1 then 1 else 0)) (ztk k) 5 = 4 then 1 else 0)) := by
      have e0 : cB_cw k C = (fun M1 : zSg => if M1 (ztk k) 5 = 4 then zup M1 (ztk k + 4) 2 (M1 (ztk k + 4) 2 + 1) else M1) (if C (ztk k) 5 = 1 then zup C (ztk k + 4) 1 (C (ztk k + 4) 1 + 1) else C) := rfl
      rw [e0, zif_add]
      exact zif_add _ _ _ _
    have eM : mB_cw k M = zup (zup M (52 + k) 1 (M (52 + k) 1 + (if M 41 k = 1 then 1 else 0))) (52 + k) 2 (zup M (52 + k) 1 (M (52 + k) 1 + (if M 41 k = 1 then 1 else 0)) (52 + k) 2 + (if zup M (52 + k) 1 (M (52 + k) 1 + (if M 41 k = 1 then 1 else 0)) 41 k = 4 then 1 else 0)) := rfl
    show zI n K (cB_cw k C) (mB_cw k M)
    rw [eC, eM]
    have c1 : zup M (52 + k) 1 (M (52 + k) 1 + (if M 41 k = 1 then 1 else 0)) 41 k = M 41 k := zup_a (by omega)
    generalize zup C (ztk k + 4) 1 (C (ztk k + 4) 1 + (if C (ztk k) 5 = 1 then 1 else 0)) = C1 at s1 ⊢
    generalize zup M (52 + k) 1 (M (52 + k) 1 + (if M 41 k = 1 then 1 else 0)) = M1 at s1 c1 ⊢
    exact zI_pl s1 (f := 52 + k) (j := 2) (by unfold zdm; omega) (zph_52 2 (by omega)) (by omega) (zcfg_cnt k 2 (by omega)) (zcnt_rg (by omega) _ _) (by rw [ze_cnt hn (zI_E s1) hk (by decide), zI_st s1 (by omega)]) ⟨fun e => by omega, fun e => by exfalso; omega, fun t ht9 e => by rw [show t = k by omega, c1]; exact c0⟩
  · have e5 : C (ztk k) 5 = 0 := (zI_st h h2).trans (zI_H h h1 h2)
    have eC : cB_cw k C = C := by
      have e0 : cB_cw k C = (fun M1 : zSg => if M1 (ztk k) 5 = 4 then zup M1 (ztk k + 4) 2 (M1 (ztk k + 4) 2 + 1) else M1) (if C (ztk k) 5 = 1 then zup C (ztk k + 4) 1 (C (ztk k + 4) 1 + 1) else C) := rfl
      rw [e0, e5, if_neg (by decide)]
      show (if C (ztk k) 5 = 4 then _ else C) = C
      rw [e5, if_neg (by decide)]
    show zI n K (cB_cw k C) M
    rw [eC]
    exact h
theorem zI_clk {n K : Nat} {C M : zSg} (h : zI n K C M) (hK : K ≤ 1000000) : zI n (K + 1) (zup C 0 9 (C 0 9 + 1)) (zup M 0 1 (M 0 1 + 1)) := by
  have hn := zI_n h
  have hck := zI_K h
  have e1 : zE n (zup C 0 9 (C 0 9 + 1)) (zup M 0 1 (M 0 1 + 1)) := zE_u hn (zI_E h) (f := 0) (j := 1) (by unfold zdm; omega) rfl (by rw [ze_clk (zI_E h)])
  have ct : ∀ t b, zup C 0 9 (C 0 9 + 1) (ztk t) b = C (ztk t) b := fun t b => zup_a (ztk_lo (by decide))
  have c12 : zup C 0 9 (C 0 9 + 1) 0 12 = C 0 12 := zup_b (by decide)
  have hi := zinc_14 hK hck
  have k : zk M (zup M 0 1 (M 0 1 + 1)) := zk_up (zk_r (zI_W h)) (f := 0) (j := 1) rfl (zr_any _)
  obtain ⟨h1, h2, h3, h4, h5, h6, ⟨a, b, c, d⟩, h8, h9, h10, h11, h12⟩ := h
  refine ⟨h1, e1, k.1, fun t ht => by rw [ct]; exact h4 t ht, zHi_s h5 hn k.2 (fun _ _ _ => rfl), fun t ht => zTk_s (by omega) k.2 (h6 t ht) rfl rfl rfl rfl rfl (ct t 6) (ct t 13) (fun _ => ⟨fun e => e, ct t 9, fun j => zup_a (by unfold ztk; omega), fun j => zup_a (by omega)⟩), ⟨by rw [c12]; omega, ?_, fun t ht hs => ?_, fun t v ht hv hs hs2 => ?_⟩, h8, fun p t hp ht e => by rw [ct]; exact h9 p t hp ht e, h10, fun t ht => ?_, ?_⟩
  · show 0 ≤ (M 0 10).toInt ∧ (M 0 10).toInt ≤ _
    omega
  · rw [c12, ct]
    exact c t ht hs
  · rw [ct, ct]
    exact d t v ht hv hs hs2
  · have := h11 t ht
    show 0 ≤ (M 47 t).toInt ∧ (M 47 t).toInt ≤ _
    omega
  · rw [zup_at]
    exact hi
theorem mF_sh_at : ∀ (j : Nat) (M : zSg) (f i : Nat), j ≤ 29 → mF_sh j M f i = if 72 ≤ f ∧ f ≤ 71 + j ∧ i < 3 then M (f - 1) i else M f i
  | 0, M, f, i, _ => by rw [if_neg (by omega)]; rfl
  | j + 1, M, f, i, hj => by
    have e : mF_sh (j + 1) M = mF_sh j (zcpyr M (71 + j) (71 + (j + 1))) := rfl
    rw [e, mF_sh_at j _ f i (by omega)]
    have z : ∀ x, zcpyr M (71 + j) (71 + (j + 1)) x i = if x = 71 + (j + 1) then (if i < 3 then M (71 + j) i else M x i) else M x i := fun x => rfl
    rw [z, z]
    by_cases c : 72 ≤ f ∧ f ≤ 71 + j ∧ i < 3
    · rw [if_pos c, if_neg (by omega), if_pos (by omega)]
    · rw [if_neg c]
      by_cases c2 : f = 71 + (j + 1)
      · rw [if_pos c2]
        by_cases c3 : i < 3
        · rw [if_pos c3, if_pos (by omega), show f - 1 = 71 + j by omega]
        · rw [if_neg c3, if_neg (by omega)]
      · rw [if_neg c2, if_neg (by omega)]
theorem mT_fill_at (M : zSg) (f i : Nat) : mT_fill M f i = if f = 71 ∧ i < 3 then -1 else M f i := by
  have key : ∀ f i, mT_fill M f i = if f = 71 ∧ i < 3 then -1 else M f i := by
    unfold mT_fill
    refine q_fold (P := fun m s => ∀ f i, s f i = if f = 71 ∧ i < m then -1 else M f i) (fun i s => zup s (71 + ix 0) i (-1)) 3 (fun f i => by rw [if_neg (by omega)]) (fun m s hm hs f i => ?_)
    show zup s 71 m (-1) f i = _
    by_cases c : f = 71 ∧ i = m
    · obtain ⟨rfl, rfl⟩ := c
      rw [zup_at, if_pos ⟨rfl, by omega⟩]
    · rw [zup_o c, hs f i]
      by_cases c2 : f = 71 ∧ i < m
      · rw [if_pos c2, if_pos ⟨c2.1, by omega⟩]
      · rw [if_neg c2, if_neg (by omega)]
  exact key f i
/-- the trace between two ticks: counts beside a fixed difference, ticks since c0 -/
def zTr (K : Nat) (ds di da : Int32) (c0 : Nat) (C M : zSg) : Prop :=
  (C 3 0 = M 0 11 + ds ∧ C 3 1 = M 0 12 + di ∧ C 3 2 = M 0 14 + da ∧ M 0 14 = M 0 12 + M 0 13) ∧
  (∀ p b, p < 3 → 1 ≤ b → b ≤ 30 → b + c0 ≤ ix (M 0 1) → M (71 + (b - 1)) p = C (5 + p) ((ix (M 0 1) - b) % 30)) ∧ (0 ≤ (M 0 14).toInt ∧ (M 0 14).toInt ≤ K)
theorem zsub_of {a b c d e : Int32} (h : a - b = c - d) (h2 : b = d + e) : a = c + e := by
  have h3 : a = (a - b) + b := (Int32.sub_add_cancel a b).symm
  rw [h3, h, h2, ← Int32.add_assoc, Int32.sub_add_cancel]
theorem zI_tick {n K f c0 : Nat} {ds di da : Int32} {C M : zSg} (h : zI n K C M) (hK : K + 4 ≤ 190000) (tr : zTr K ds di da c0 C M) (hf : 16 < f) :
    ∃ M', mF_tick f M = some M' ∧ zI n (K + 4) (cF_tick C) M' ∧ zTr (K + 4) ds di da c0 (cF_tick C) M' ∧ zk M M' ∧ M' 0 1 = M 0 1 + 1 ∧ M' 0 0 = M 0 0 := by
  have hn := zI_n h
  have b1 := zI_begin h
  have b2 := zI_wakes b1
  have b3 := zI_turns b2
  have hc3 : zKc C (cF_turns (cF_wakes (cF_begin C))) := kc_turns (kc_wakes (kc_begin (zKc_r C)))
  have hm3 : zKm M (mF_expire (mT_c (mT_b (mT_a M)))) := km_expire (km_c (km_b (km_a (zKm_r M))))
  have hz3 : zk M (mF_expire (mT_c (mT_b (mT_a M)))) := zk_expire (zk_tc (zk_tb (zk_ta (zk_r (zI_W h)))))
  have q3 : zTq C M (cF_turns (cF_wakes (cF_begin C))) (mF_expire (mT_c (mT_b (mT_a M)))) := zTq_of (zTq_r C M) hc3 hm3
  obtain ⟨M4, t1, t2, t3⟩ := zI_share b3 q3 hf
  have hz4 : zk M M4 := zk_take hz3 t1
  have eC : cF_tick C = zup (cF_cw ((List.range 3).foldl (fun s k => cB_run k s) (cF_share (cF_turns (cF_wakes (cF_begin C)))))) 0 9 (cF_cw ((List.range 3).foldl (fun s k => cB_run k s) (cF_share (cF_turns (cF_wakes (cF_begin C))))) 0 9 + 1) := rfl
  have eM : mF_tick f M = mT_run f (mT_fill (mF_sh 29 M4)) := by
    unfold mF_tick
    rw [t1]
    rfl
  rw [eC, eM]
  generalize cF_share (cF_turns (cF_wakes (cF_begin C))) = C4 at t2 t3 ⊢
  obtain ⟨q1, q2, q5, q4, q6⟩ := t3
  obtain ⟨⟨r1, r2, r3, r4⟩, r5, r6⟩ := tr
  have ck4 : M4 0 1 = M 0 1 := q4 1 (by decide)
  generalize hM5 : mT_fill (mF_sh 29 M4) = M5
  have v5 : ∀ f i, M5 f i = if f = 71 ∧ i < 3 then -1 else if 72 ≤ f ∧ f ≤ 100 ∧ i < 3 then M4 (f - 1) i else M4 f i := by
    intro f i
    rw [← hM5, mT_fill_at, mF_sh_at 29 M4 f i (Nat.le_refl _)]
  have hz5 : zk M4 M5 := by
    rw [← hM5]
    exact zk_fill (zk_sh 29 (by decide) (zk_r (zI_W t2)))
  have h5 : zI n K C4 M5 := zI_m t2 hz5 (fun f j hq => by
    unfold zQm at hq
    rw [v5, if_neg (by omega), if_neg (by omega)])
  have m50 : ∀ j, M5 0 j = M4 0 j := fun j => by rw [v5, if_neg (by omega), if_neg (by omega)]
  have m511 : M5 0 11 = M4 0 11 := m50 11
  have m512 : M5 0 12 = M 0 12 := (m50 12).trans (q4 12 (by decide))
  have m513 : M5 0 13 = M 0 13 := (m50 13).trans (q4 13 (by decide))
  have m514 : M5 0 14 = M 0 14 := (m50 14).trans (q4 14 (by decide))
  have ck5 : M5 0 1 = M 0 1 := (m50 1).trans ck4
  have hl : zLp 0 (ix (M5 0 1) % 30) K ds di da C4 M5 C4 M5 := by
    refine ⟨⟨?_, ?_, ?_, ?_⟩, fun _ _ _ _ => rfl, fun q hq => absurd hq (Nat.not_lt_zero q), fun q _ hq => by rw [v5, if_pos ⟨rfl, hq⟩], fun _ _ _ _ => rfl, by rw [m514]; exact r6⟩
    · rw [m511]; exact zsub_of q1 r1
    · rw [q2 1 (by decide), m512]; exact r2
    · rw [q2 2 (by decide), m514]; exact r3
    · rw [m512, m513, m514]; exact r4
  obtain ⟨M6, l1, l2, l3, l4, l5, l50⟩ := zI_loop h5 (by omega) hf hl
  generalize (List.range 3).foldl (fun s k => cB_run k s) C4 = C6 at l2 l3 ⊢
  have h7 := zI_cw l2
  have h8 := zI_clk h7 (by omega)
  have hkc : zKc C6 (cF_cw C6) := kc_cw (zKc_r C6)
  have hkm : zKm M6 (mT_cw M6) := km_cw (zKm_r M6) (zmW_n16 (zI_W l2))
  have l7 := zLp_k l3 hkc hkm
  have ck7 : mT_cw M6 0 1 = M 0 1 := ((hkm.1 1 (by decide)).trans l5).trans ck5
  have hclk := zI_K h
  have eR : mT_run f M5 = some (zup (mT_cw M6) 0 1 (mT_cw M6 0 1 + 1)) := by
    unfold mT_run
    rw [l1]
    rfl
  have hz6 : zk M6 (zup (mT_cw M6) 0 1 (mT_cw M6 0 1 + 1)) := zk_end (zk_r (zI_W l2))
  refine ⟨_, eR, h8, ?_, zk_t hz4 (zk_t hz5 (zk_t l4 hz6)), ?_, ?_⟩
  · obtain ⟨⟨a1, a2, a3, a4⟩, b, d, e, g, i⟩ := l7
    generalize cF_cw C6 = C7 at a1 a2 a3 a4 b d h8 ⊢
    generalize mT_cw M6 = M7 at a1 a2 a3 a4 d e g i ck7 ⊢
    have hx1 : ix (M 0 1 + 1) = ix (M 0 1) + 1 := by
      have e1 : (M 0 1 + 1).toInt = (M 0 1).toInt + 1 := fb_addI (y := 1) (by rw [show (1 : Int32).toInt = 1 from rfl]; omega) (by rw [show (1 : Int32).toInt = 1 from rfl]; omega)
      have e2 := ztoInt (x := M 0 1 + 1) (by omega)
      have e3 := ztoInt hclk.1
      omega
    have c3 : ∀ b, zup C7 0 9 (C7 0 9 + 1) 3 b = C7 3 b := fun b => zup_a (by decide)
    have c5 : ∀ p b, zup C7 0 9 (C7 0 9 + 1) (5 + p) b = C7 (5 + p) b := fun p b => zup_a (by omega)
    refine ⟨⟨by rw [c3]; exact a1, by rw [c3]; exact a2, by rw [c3]; exact a3, a4⟩, fun p b2 hp h1 h30 hc => ?_, ?_⟩
    · rw [zup_at, ck7, hx1] at hc ⊢
      rw [c5, zup_a (by omega)]
      rw [ck5] at b d
      by_cases c : b2 = 1
      · subst c
        rw [show ix (M 0 1) + 1 - 1 = ix (M 0 1) by omega, d p hp hp]
      · have hne : (ix (M 0 1) + 1 - b2) % 30 ≠ ix (M 0 1) % 30 := by omega
        rw [b p _ hp hne, g (71 + (b2 - 1)) p (by omega) (by omega), v5, if_neg (by omega), if_pos (by omega), q6 _ _ (by omega) (by omega), q5 (5 + p) _ (by omega)]
        have := r5 p (b2 - 1) hp (by omega) (by omega) (by omega)
        rw [show 71 + (b2 - 1) - 1 = 71 + (b2 - 1 - 1) by omega, this, show ix (M 0 1) + 1 - b2 = ix (M 0 1) - (b2 - 1) by omega]
    · show 0 ≤ (M7 0 14).toInt ∧ (M7 0 14).toInt ≤ _
      omega
  · rw [zup_at, ck7]
  · exact (zup_b (by decide)).trans ((hkm.1 0 (by decide)).trans (l50.trans ((m50 0).trans (q4 0 (by decide)))))
