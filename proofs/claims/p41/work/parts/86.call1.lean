/-! The calls: what the class answers and what the reference answers -/
def zQR (n K : Nat) (A M : zSg) : Prop := zI n K A M ∧ zTr K 0 0 0 0 A M
/-- the number that the law gives a throw -/
def eco (L : List String) (E : String) : Int32 := nI (L.idxOf E + 1)
def zAg (L : List String) (K : Nat) (R : zRs) (A : zSg) (P : zSg × Int32) : Prop := match R with
  | .inl q => q.2 = P.2 ∧ P.1 0 0 = 0 ∧ ∃ n, zQR n K q.1 P.1
  | .inr E => E ∈ L ∧ P.1 0 0 = eco L E ∧ ∃ n, zQR n K A P.1
theorem zTr_0 {K c0 : Nat} {ds di da v : Int32} {A M : zSg} (h : zTr K ds di da c0 A M) : zTr K ds di da c0 A (zup M 0 0 v) := by
  obtain ⟨h1, h2, h3⟩ := h
  refine ⟨?_, fun p b hp g1 g2 g3 => ?_, ?_⟩
  · rw [zup_b (by decide), zup_b (by decide), zup_b (by decide), zup_b (by decide)]; exact h1
  · rw [zup_b (by decide)] at g3
    rw [zup_a (by omega), zup_b (by decide)]; exact h2 p b hp g1 g2 g3
  · rw [zup_b (by decide)]; exact h3
theorem zI_0 {n K : Nat} {A M : zSg} (h : zI n K A M) (v : Int32) : zI n K A (zup M 0 0 v) :=
  zI_m h (zk_up (zk_r (zI_W h)) (by rfl) (zr_any _)) (zMq_up (zMq_r M) v (Or.inl ⟨rfl, Or.inl rfl⟩))
theorem zQR_0 {n K : Nat} {A M : zSg} (h : zQR n K A M) (v : Int32) : zQR n K A (zup M 0 0 v) := ⟨zI_0 h.1 v, zTr_0 h.2⟩
theorem ag_x {n K : Nat} {A M : zSg} {L : List String} {E : String} {v : Int32} {R : zRs} {P : zSg × Int32} (h : zQR n K A (zup M 0 0 0)) (hR : R = .inr E) (hP : P = mF_ref (zup M 0 0 0) v) (hE : E ∈ L) (hv : v = eco L E) : zAg L K R A P := by
  subst hR; subst hP
  exact ⟨hE, (zup_at (zup M 0 0 0) 0 0 v).trans hv, n, zQR_0 h v⟩
theorem ag_g {n K : Nat} {A A' M : zSg} {L : List String} {v w : Int32} {R : zRs} {P : zSg × Int32} (h : zQR n K A' (zup M 0 0 0)) (hR : R = .inl (A', v)) (hP : P = (zup M 0 0 0, w)) (hv : v = w) : zAg L K R A P := by
  subst hR; subst hP
  exact ⟨hv, zup_at M 0 0 0, n, h⟩
theorem ag_c {n K : Nat} {A A' M' : zSg} {L : List String} {v w : Int32} {R : zRs} {P : zSg × Int32} (h : zQR n K A' M') (h0 : M' 0 0 = 0) (hR : R = .inl (A', v)) (hP : P = (M', w)) (hv : v = w) : zAg L K R A P := by
  subst hR; subst hP
  exact ⟨hv, h0, n, h⟩
/-! conditions -/
theorem is_y {v lo hi : Int32} (h : lo.toInt ≤ v.toInt) (h2 : v.toInt ≤ hi.toInt) : mF_is v lo hi = true := by
  unfold mF_is
  rw [if_neg (fun c => by rw [Int32.lt_iff_toInt_lt] at c; omega), if_neg (fun c => by rw [Int32.lt_iff_toInt_lt] at c; omega)]
theorem is_n {v lo hi : Int32} (h : v.toInt < lo.toInt ∨ hi.toInt < v.toInt) : mF_is v lo hi = false := by
  unfold mF_is
  by_cases c : v < lo
  · rw [if_pos c]
  · rw [if_neg c, if_pos (by rw [Int32.lt_iff_toInt_lt] at c ⊢; omega)]
theorem i_lt {a b : Int32} : (a < b) = (a.toInt < b.toInt) := propext Int32.lt_iff_toInt_lt
theorem of_rng {v : Int32} {n : Nat} (h0 : 0 ≤ v.toInt) (hn : v.toInt < n) : ∃ i, i < n ∧ v = nI i := by
  have h1 := ztoInt h0
  exact ⟨ix v, by omega, (nI_ix h0).symm⟩
theorem nI_rng {i : Nat} (h : i < 100) : (nI i).toInt = i := nI_toInt (by omega)
theorem nI_sub1 {n : Nat} (h : n ≤ 16) : (nI n - 1).toInt = (n : Int) - 1 := by
  have : ∀ n, n < 17 → (nI n - 1).toInt = (n : Int) - 1 := by decide +kernel
  exact this n (by omega)
theorem task_eq {n K : Nat} {A M : zSg} (h : zI n K A M) (t : Int32) : (∃ i, i < n ∧ t = nI i ∧ mF_isTask M t = true ∧ cF_rt A t = some i) ∨ (mF_isTask M t = false ∧ cF_rt A t = none) := by
  have hn := zI_n h
  have e1 : A 0 10 = nI n := (ze_n (zI_E h)).trans h.1.2
  by_cases c : 0 ≤ t.toInt ∧ t.toInt < n
  · obtain ⟨i, hi, rfl⟩ := of_rng c.1 c.2
    refine Or.inl ⟨i, hi, rfl, ?_, rt_nI e1 hn hi⟩
    unfold mF_isTask
    refine is_y c.1 ?_
    rw [h.1.2, nI_sub1 hn]
    omega
  · refine Or.inr ⟨?_, ?_⟩
    · unfold mF_isTask
      refine is_n ?_
      rw [h.1.2, nI_sub1 hn, show (0 : Int32).toInt = 0 from rfl]
      omega
    · unfold cF_rt cF_at
      by_cases c1 : t < 0
      · rw [if_pos c1]
      · rw [if_neg c1]
        by_cases c2 : t < 16
        · rw [if_pos c2]
          dsimp only
          rw [e1, if_neg]
          rw [i_lt, nI_rng (by omega)]
          rw [i_lt, show (0 : Int32).toInt = 0 from rfl] at c1
          omega
        · rw [if_neg c2]
theorem proc_eq {n K : Nat} {A M : zSg} (h : zI n K A M) (t : Int32) : (∃ i, i < 3 ∧ i < ix (M 0 6) ∧ t = nI i ∧ mF_isProc M t = true ∧ cR_proc A t = none) ∨ (mF_isProc M t = false ∧ cR_proc A t = some eIX) := by
  have hW := zI_W h
  obtain ⟨p, hp1, hp3, ep⟩ : ∃ p, 1 ≤ p ∧ p ≤ 3 ∧ M 0 6 = nI p := by
    have h6 : zr1 (M 0 6) 1 3 := hW 0 6
    have h7 : 1 ≤ (M 0 6).toInt ∧ (M 0 6).toInt ≤ 3 := h6
    obtain ⟨p, hp, e⟩ := of_rng (v := M 0 6) (n := 4) (by omega) (by omega)
    rw [e, nI_rng (by omega)] at h7
    exact ⟨p, by omega, by omega, e⟩
  have e1 : A 1 0 = nI p := (ze_pr (zI_E h)).trans ep
  by_cases c : 0 ≤ t.toInt ∧ t.toInt < p
  · obtain ⟨i, hi, rfl⟩ := of_rng c.1 c.2
    refine Or.inl ⟨i, by omega, by rw [ep, zix (by omega)]; exact hi, rfl, ?_, proc_nI e1 hp3 hi⟩
    unfold mF_isProc
    refine is_y c.1 ?_
    rw [ep, nI_sub1 (by omega)]
    omega
  · refine Or.inr ⟨?_, ?_⟩
    · unfold mF_isProc
      refine is_n ?_
      rw [ep, nI_sub1 (by omega), show (0 : Int32).toInt = 0 from rfl]
      omega
    · unfold cR_proc
      by_cases c1 : t < 0
      · rw [if_pos c1]
      · rw [if_neg c1, e1, if_neg]
        rw [i_lt, nI_rng (by omega)]
        rw [i_lt, show (0 : Int32).toInt = 0 from rfl] at c1
        omega
theorem rng_eq (t : Int32) (N : Nat) (hN : N < 100) (z : Int32) (hz : z.toInt = N - 1) : (∃ q, q < N ∧ t = nI q ∧ mF_is t 0 z = true) ∨ (mF_is t 0 z = false ∧ (t.toInt < 0 ∨ (N : Int) ≤ t.toInt)) := by
  by_cases c : 0 ≤ t.toInt ∧ t.toInt < N
  · obtain ⟨i, hi, rfl⟩ := of_rng c.1 c.2
    exact Or.inl ⟨i, hi, rfl, is_y c.1 (by omega)⟩
  · exact Or.inr ⟨is_n (by rw [show (0 : Int32).toInt = 0 from rfl]; omega), by omega⟩
theorem lock_eq (t : Int32) : (∃ q, q < 6 ∧ t = nI q ∧ mF_is t 0 5 = true ∧ cR_lock t = none) ∨ (mF_is t 0 5 = false ∧ cR_lock t = some eIX) := by
  rcases rng_eq t 6 (by decide) 5 (by decide) with ⟨q, hq, e, h⟩ | ⟨h, h2⟩
  · exact Or.inl ⟨q, hq, e, h, by rw [e]; exact lock_nI hq⟩
  · refine Or.inr ⟨h, ?_⟩
    unfold cR_lock
    by_cases c : t < 0
    · rw [if_pos c]
    · rw [if_neg c, if_neg]
      rw [i_lt, show (0 : Int32).toInt = 0 from rfl] at c
      rw [i_lt, show (6 : Int32).toInt = 6 from rfl]
      omega
theorem tried_eq (t : Int32) : (mF_is t 1 60 = true ∧ cR_tried t = none ∧ 1 ≤ t.toInt ∧ t.toInt ≤ 60) ∨ (mF_is t 1 60 = false ∧ cR_tried t = some eIA) := by
  unfold cR_tried
  by_cases c : t < 1
  · refine Or.inr ⟨is_n (Or.inl (by rw [i_lt] at c; exact c)), by rw [if_pos c]⟩
  · by_cases c2 : 60 < t
    · refine Or.inr ⟨is_n (Or.inr (by rw [i_lt] at c2; exact c2)), by rw [if_neg c, if_pos c2]⟩
    · rw [i_lt, show (1 : Int32).toInt = 1 from rfl] at c
      rw [i_lt, show (60 : Int32).toInt = 60 from rfl] at c2
      refine Or.inl ⟨is_y (by rw [show (1 : Int32).toInt = 1 from rfl]; omega) (by rw [show (60 : Int32).toInt = 60 from rfl]; omega), by rw [if_neg (by rw [i_lt, show (1 : Int32).toInt = 1 from rfl]; omega), if_neg (by rw [i_lt, show (60 : Int32).toInt = 60 from rfl]; omega)], by omega, by omega⟩
theorem ff {b : Bool} (h : b = false) : ¬ b = true := by rw [h]; decide
/-! what is asked -/
def LX : List String := [eIX]
def LA : List String := [eIA]
def LXA : List String := [eIX, eIA]
def LXS : List String := [eIX, eIS]
def LAS : List String := [eIA, eIS]
def LXAS : List String := [eIX, eIA, eIS]
section CG
variable {n K : Nat} {A M : zSg}
theorem c_of (h : zQR n K A M) (t : Int32) (f : Nat → Int32) (k : Nat) (hv : ∀ i, i < n → f i = M k i) (hk : k ≠ 0) : zAg LX K (cP_of A t f) A (mP_of M k t) := by
  have h0 := zQR_0 h 0
  rcases task_eq h0.1 t with ⟨i, hi, rfl, h1, h2⟩ | ⟨h1, h2⟩
  · have := zI_n h.1
    exact ag_g h0 (by unfold cP_of; rw [h2]) (by unfold mP_of; rw [if_pos h1]) (by rw [hv i hi, zup_a hk, zix (by omega)])
  · exact ag_x h0 (by unfold cP_of; rw [h2]) (by unfold mP_of; rw [if_neg (ff h1)]) (by decide) (by decide)
theorem c_stateOf (h : zQR n K A M) (t : Int32) : zAg LX K (cP_of A t (fun i => A (ztk i) 5)) A (mP_of M 41 t) := c_of h t _ 41 (fun i hi => ze_st (zI_E h.1) (by have := zI_n h.1; omega)) (by decide)
theorem c_stepOf (h : zQR n K A M) (t : Int32) : zAg LX K (cP_of A t (fun i => cF_stepOf A i)) A (mP_of M 42 t) := c_of h t _ 42 (fun i hi => by
  have hn := zI_n h.1
  unfold cF_stepOf
  rw [ze_st (zI_E h.1) (by omega)]
  by_cases c : M 41 i = 6
  · rw [if_pos c, ze_len (zI_E h.1) (by omega), (zI_T h.1 hi).2.1 c]
  · rw [if_neg c, (zI_T h.1 hi).1 c]) (by decide)
theorem c_roundsOf (h : zQR n K A M) (t : Int32) : zAg LX K (cP_of A t (fun i => A (ztk i) 8)) A (mP_of M 43 t) := c_of h t _ 43 (fun i hi => ze_gone (zI_E h.1) (by have := zI_n h.1; omega)) (by decide)
theorem c_standOf (h : zQR n K A M) (t : Int32) : zAg LX K (cP_of A t (fun i => A (ztk i) 9)) A (mP_of M 45 t) := c_of h t _ 45 (fun i hi => ze_stand (zI_E h.1) hi) (by decide)
theorem c_levelOf (h : zQR n K A M) (t : Int32) : zAg LX K (cP_of A t (fun i => A (ztk i) 10)) A (mP_of M 46 t) := c_of h t _ 46 (fun i hi => ze_lev (zI_E h.1) (by have := zI_n h.1; omega)) (by decide)
theorem c_keyOf (h : zQR n K A M) (t : Int32) : zAg LX K (cP_of A t (fun i => cF_key A i (A 1 1))) A (mP_keyOf M t) := by
  have h0 := zQR_0 h 0
  rcases task_eq h0.1 t with ⟨i, hi, rfl, h1, h2⟩ | ⟨h1, h2⟩
  · exact ag_g h0 (by unfold cP_of; rw [h2]) (by unfold mP_keyOf; rw [if_pos h1]) (key_eq h0.1 hi)
  · exact ag_x h0 (by unfold cP_of; rw [h2]) (by unfold mP_keyOf; rw [if_neg (ff h1)]) (by decide) (by decide)
theorem zQR_lent (h : zQR n K A M) : zQR n K (cF_lent A) M := by
  have hf := cF_lent_fr A
  refine ⟨zI_q h.1 (zLf_q hf), ?_⟩
  obtain ⟨h1, h2, h3⟩ := h.2
  refine ⟨?_, fun p b hp g1 g2 g3 => ?_, h3⟩
  · rw [hf 3 0 (by omega), hf 3 1 (by omega), hf 3 2 (by omega)]; exact h1
  · rw [hf _ _ (by omega)]; exact h2 p b hp g1 g2 g3
theorem c_lentKey (h : zQR n K A M) (t : Int32) : zAg LX K (cP_lentKey A t) A (mP_lentKey M t) := by
  have h0 := zQR_0 h 0
  rcases task_eq h0.1 t with ⟨i, hi, rfl, h1, h2⟩ | ⟨h1, h2⟩
  · exact ag_g (zQR_lent h0) (by unfold cP_lentKey; rw [h2]) (by unfold mP_lentKey; rw [if_pos h1]) (lent_eq h0.1 hi)
  · exact ag_x h0 (by unfold cP_lentKey; rw [h2]) (by unfold mP_lentKey; rw [if_neg (ff h1)]) (by decide) (by decide)
theorem tell_nI (A : zSg) (i : Nat) {w : Nat} (hw : w < 5) : cF_tell A i (nI w) = A (ztk i + 4) w := by
  match w, hw with
  | 0, _ => rfl
  | 1, _ => rfl
  | 2, _ => rfl
  | 3, _ => rfl
  | 4, _ => rfl
  | w + 5, h9 => exact absurd h9 (by omega)
theorem c_told (h : zQR n K A M) (t w : Int32) : zAg LXA K (cP_told A t w) A (mP_told M t w) := by
  have h0 := zQR_0 h 0
  rcases task_eq h0.1 t with ⟨i, hi, rfl, h1, h2⟩ | ⟨h1, h2⟩
  · have hn := zI_n h.1
    rcases rng_eq w 5 (by decide) 4 (by decide) with ⟨q, hq, rfl, h3⟩ | ⟨h3, h4⟩
    · refine ag_g h0 (v := cF_tell A i (nI q)) (by unfold cP_told; rw [h2]; dsimp only; rw [if_neg (nI_pos (by omega)), if_pos (zlt_T (x := 5) (by decide) hq)]) (by unfold mP_told; rw [if_pos h1, if_pos h3]) ?_
      rw [tell_nI A i hq, zix (by omega), zix (by omega), ze_cnt hn (zI_E h0.1) hi hq]
    · refine ag_x h0 (E := eIA) (v := 2) ?_ (by unfold mP_told; rw [if_pos h1, if_neg (ff h3)]) (by decide) (by decide)
      unfold cP_told
      rw [h2]
      dsimp only
      by_cases c : w < 0
      · rw [if_pos c]
      · rw [if_neg c, if_neg]
        rw [i_lt, show (0 : Int32).toInt = 0 from rfl] at c
        rw [i_lt, show (5 : Int32).toInt = 5 from rfl]
        omega
  · exact ag_x h0 (E := eIX) (v := 1) (by unfold cP_told; rw [h2]) (by unfold mP_told; rw [if_neg (ff h1)]) (by decide) (by decide)
theorem on_nI (A : zSg) {p : Nat} (hp : p < 3) : cF_on A (nI p) = A 12 p := by
  unfold cF_on
  rw [if_neg (nI_pos (by omega)), if_pos (zlt_T (x := 3) (by decide) hp), zix (by omega)]
theorem number_nI (A : zSg) {q : Nat} (hq : q < 6) : cF_number A (nI q) = A 11 q := by
  unfold cF_number
  rw [if_neg (nI_pos (by omega)), if_pos (zlt_T (x := 6) (by decide) hq), zix (by omega)]
theorem c_on (h : zQR n K A M) (p : Int32) : zAg LX K (cP_on A p) A (mP_on M p) := by
  have h0 := zQR_0 h 0
  rcases proc_eq h0.1 p with ⟨i, hi, hx, rfl, h1, h2⟩ | ⟨h1, h2⟩
  · refine ag_g h0 (v := cF_on A (nI i)) (by unfold cP_on; rw [h2]) (by unfold mP_on; rw [if_pos h1]) ?_
    rw [on_nI A hi, zix (by omega), ze_on (zI_E h0.1) hi]
  · exact ag_x h0 (by unfold cP_on; rw [h2]) (by unfold mP_on; rw [if_neg (ff h1)]) (by decide) (by decide)
theorem c_used (h : zQR n K A M) (g : Int32) : zAg LX K (cP_used A g) A (mP_used M g) := by
  have h0 := zQR_0 h 0
  rcases rng_eq g 4 (by decide) 3 (by decide) with ⟨q, hq, rfl, h3⟩ | ⟨h3, h4⟩
  · refine ag_g h0 (v := A 9 (ix (nI q))) (by unfold cP_used; rw [if_neg (nI_pos (by omega)), if_pos (zlt_T (x := 4) (by decide) hq)]) (by unfold mP_used; rw [if_pos h3]) ?_
    rw [zix (by omega), ze_used (zI_E h0.1) hq]
  · refine ag_x h0 (E := eIX) (v := 1) ?_ (by unfold mP_used; rw [if_neg (ff h3)]) (by decide) (by decide)
    unfold cP_used
    by_cases c : g < 0
    · rw [if_pos c]
    · rw [if_neg c, if_neg]
      rw [i_lt, show (0 : Int32).toInt = 0 from rfl] at c
      rw [i_lt, show (4 : Int32).toInt = 4 from rfl]
      omega
theorem c_lk (h : zQR n K A M) (t v : Int32) (P : zSg × Int32) (w : Int32) (hv : ∀ q, q < 6 → t = nI q → v = w) (hP : P = if mF_is t 0 5 = true then (zup M 0 0 0, w) else mF_ref (zup M 0 0 0) 1) : zAg LX K (cP_lk A t v) A P := by
  have h0 := zQR_0 h 0
  rcases lock_eq t with ⟨q, hq, e, h1, h2⟩ | ⟨h1, h2⟩
  · exact ag_g h0 (by unfold cP_lk; rw [h2]) (by rw [hP, if_pos h1]) (hv q hq e)
  · exact ag_x h0 (by unfold cP_lk; rw [h2]) (by rw [hP, if_neg (ff h1)]) (by decide) (by decide)
theorem c_holder (h : zQR n K A M) (t : Int32) : zAg LX K (cP_lk A t (cF_holder A t)) A (mP_holder M t) := c_lk h t _ _ _ (fun q hq e => by rw [e, cF_holder_nI A hq, zix (by omega), ze_hold (zI_E (zQR_0 h 0).1) hq]) rfl
theorem c_number (h : zQR n K A M) (t : Int32) : zAg LX K (cP_lk A t (cF_number A t)) A (mP_number M t) := c_lk h t _ _ _ (fun q hq e => by rw [e, number_nI A hq, zix (by omega), ze_sig (zI_E (zQR_0 h 0).1) hq]) rfl
theorem c_blocked (h : zQR n K A M) (t : Int32) : zAg LX K (cP_lk A t (cF_wt A 4 t)) A (mP_waits M 4 t) := c_lk h t _ _ _ (fun q hq e => by rw [e]; exact those_eq (zQR_0 h 0).1 (Or.inl rfl) hq) rfl
theorem c_awaiting (h : zQR n K A M) (t : Int32) : zAg LX K (cP_lk A t (cF_wt A 5 t)) A (mP_waits M 5 t) := c_lk h t _ _ _ (fun q hq e => by rw [e]; exact those_eq (zQR_0 h 0).1 (Or.inr rfl) hq) rfl
end CG
