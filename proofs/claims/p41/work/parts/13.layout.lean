/-! Regions: the model's 103 cells at o, a machine's 95 cells at o -/
section ZG
variable {G : zGm} {X : zCx} {own : String} {cc : ByteArray} {nL bc bs : Nat} {S : Nat → Prop} {ly : zLy} {τ : zTu} {σ M : zSg} {pc o N f : Nat} {ls : List (Option Value)} {st : List Value}
theorem zwr_in0 (σ : zSg) {o N : Nat} (M : zSg) (j : Nat) (h : 0 < N) : zwr σ o N M o j = M 0 j := zwr_in (f := 0) σ M j h
theorem zwr_up0 (σ : zSg) {o N : Nat} (M : zSg) (j : Nat) (v : Int32) (h : 0 < N) : zup (zwr σ o N M) o j v = zwr σ o N (zup M 0 j v) := zwr_up (f := 0) σ M j v h
theorem zg_getfi (hO : zOk G X own cc nL) {index c k n : Nat} {rf : Nat → Option Nat} (hly : ly (o + f) = (c + 5, n, rf)) (hf : f < N) (hc : c < 8) (hk : k < zN c) (hw : (Cond.fieldLink own index (zRn c) (zT c k).2.1 (zT c k).2.2.1) ∈ lw_tbl) (hty : zty c k = .int) (hdg : decode cc pc = .ok (.getfield index, 3)) (kk : zV G X nL bc bs S ly τ (zwr σ o N M) (pc + 3) ls (.int (M f k) :: st)) : zV G X nL bc bs S ly τ (zwr σ o N M) pc ls (.ref (o + f) :: st) :=
  zr_getfi hO hc hk hw hly hty hdg (by rw [zwr_in σ M k hf]; exact kk)
theorem zg_getfi0 (hO : zOk G X own cc nL) {index c k n : Nat} {rf : Nat → Option Nat} (hly : ly o = (c + 5, n, rf)) (hf : 0 < N) (hc : c < 8) (hk : k < zN c) (hw : (Cond.fieldLink own index (zRn c) (zT c k).2.1 (zT c k).2.2.1) ∈ lw_tbl) (hty : zty c k = .int) (hdg : decode cc pc = .ok (.getfield index, 3)) (kk : zV G X nL bc bs S ly τ (zwr σ o N M) (pc + 3) ls (.int (M 0 k) :: st)) : zV G X nL bc bs S ly τ (zwr σ o N M) pc ls (.ref o :: st) :=
  zr_getfi hO hc hk hw hly hty hdg (by rw [zwr_in0 σ M k hf]; exact kk)
theorem zg_putfi (hO : zOk G X own cc nL) {index c k n : Nat} {rf : Nat → Option Nat} (hly : ly (o + f) = (c + 5, n, rf)) (hf : f < N) (hc : c < 8) (hk : k < zN c) (hw : (Cond.fieldLink own index (zRn c) (zT c k).2.1 (zT c k).2.2.1) ∈ lw_tbl) (hfin : (zT c k).2.2.2 = false) (hty : zty c k = .int) {v : Int32} (hdg : decode cc pc = .ok (.putfield index, 3)) (kk : zV G X nL bc bs S ly τ (zwr σ o N (zup M f k v)) (pc + 3) ls st) : zV G X nL bc bs S ly τ (zwr σ o N M) pc ls (.int v :: .ref (o + f) :: st) :=
  zr_putfi hO hc hk hw hly hfin hty hdg (by rw [zwr_up σ M k v hf]; exact kk)
theorem zg_putfi0 (hO : zOk G X own cc nL) {index c k n : Nat} {rf : Nat → Option Nat} (hly : ly o = (c + 5, n, rf)) (hf : 0 < N) (hc : c < 8) (hk : k < zN c) (hw : (Cond.fieldLink own index (zRn c) (zT c k).2.1 (zT c k).2.2.1) ∈ lw_tbl) (hfin : (zT c k).2.2.2 = false) (hty : zty c k = .int) {v : Int32} (hdg : decode cc pc = .ok (.putfield index, 3)) (kk : zV G X nL bc bs S ly τ (zwr σ o N (zup M 0 k v)) (pc + 3) ls st) : zV G X nL bc bs S ly τ (zwr σ o N M) pc ls (.int v :: .ref o :: st) :=
  zr_putfi hO hc hk hw hly hfin hty hdg (by rw [zwr_up0 σ M k v hf]; exact kk)
theorem zg_iald (hO : zOk G X own cc nL) {n : Nat} {rf : Nat → Option Nat} (hly : ly (o + f) = (1, n, rf)) (hf : f < N) {i : Int32} (hin : vp_in i n) (hdg : decode cc pc = .ok (.iaload, 1)) (kk : zV G X nL bc bs S ly τ (zwr σ o N M) (pc + 1) ls (.int (M f (ix i)) :: st)) : zV G X nL bc bs S ly τ (zwr σ o N M) pc ls (.int i :: .ref (o + f) :: st) :=
  zr_iald hO hly hin hdg (by rw [zwr_in σ M _ hf]; exact kk)
theorem zg_iast (hO : zOk G X own cc nL) {n : Nat} {rf : Nat → Option Nat} (hly : ly (o + f) = (1, n, rf)) (hf : f < N) {i v : Int32} (hin : vp_in i n) (hdg : decode cc pc = .ok (.iastore, 1)) (kk : zV G X nL bc bs S ly τ (zwr σ o N (zup M f (ix i) v)) (pc + 1) ls st) : zV G X nL bc bs S ly τ (zwr σ o N M) pc ls (.int v :: .int i :: .ref (o + f) :: st) :=
  zr_iast hO hly hin hdg (by rw [zwr_up σ M _ v hf]; exact kk)
end ZG
/-- a loop that counts up, over a state -/
theorem z_for {σ9 : Type} {P : Nat → σ9 → Prop} (n : Nat) (body : Nat → σ9 → σ9) (I : Nat → σ9 → Prop) (s : σ9) (h0 : I 0 s) (hI : ∀ i s, i < n → I i s → I (i + 1) (body i s)) (hstep : ∀ i s, i < n → I i s → P (i + 1) (body i s) → P i s) (hend : I n ((List.range n).foldl (fun s i => body i s) s) → P n ((List.range n).foldl (fun s i => body i s) s)) : P 0 s := by
  have hIn : ∀ k, k ≤ n → I k ((List.range k).foldl (fun s i => body i s) s) := by
    intro k
    induction k with
    | zero => intro _; exact h0
    | succ k ih =>
      intro hk
      rw [List.range_succ, List.foldl_append]
      exact hI k _ (by omega) (ih (by omega))
  have key : ∀ k, k ≤ n → P (n - k) ((List.range (n - k)).foldl (fun s i => body i s) s) := by
    intro k
    induction k with
    | zero => intro _; exact hend (hIn n (Nat.le_refl _))
    | succ k ih =>
      intro hk
      have h1 := ih (by omega)
      have e : n - k = (n - (k + 1)) + 1 := by omega
      rw [e, List.range_succ, List.foldl_append] at h1
      exact hstep _ _ (by omega) (hIn _ (by omega)) h1
  have := key n (Nat.le_refl _)
  rw [Nat.sub_self] at this
  exact this
def zmr (o : Nat) : Nat → Option Nat := fun k => match k with
  | 7 => some (o + 1)
  | 8 => some (o + 2)
  | 16 => some (o + 3)
  | 17 => some (o + 4)
  | 18 => some (o + 5)
  | 19 => some (o + 6)
  | 20 => some (o + 7)
  | 21 => some (o + 24)
  | 22 => some (o + 41)
  | 23 => some (o + 42)
  | 24 => some (o + 43)
  | 25 => some (o + 44)
  | 26 => some (o + 45)
  | 27 => some (o + 46)
  | 28 => some (o + 47)
  | 29 => some (o + 48)
  | 30 => some (o + 49)
  | 31 => some (o + 50)
  | 32 => some (o + 51)
  | 33 => some (o + 68)
  | 34 => some (o + 69)
  | 35 => some (o + 70)
  | 36 => some (o + 101)
  | 37 => some (o + 102)
  | _ => none
def znr : Nat → Option Nat := fun _ => none
def zrows (o s n : Nat) : Nat → Option Nat := fun j => if j < n then some (o + (s + j)) else none
def zmk (o f : Nat) : zKd := match f with
  | 0 => (12, 39, zmr o)
  | 1 => (1, 4, znr)
  | 2 => (1, 4, znr)
  | 7 => (3, 16, zrows o 8 16)
  | 24 => (3, 16, zrows o 25 16)
  | 51 => (3, 16, zrows o 52 16)
  | 68 => (1, 3, znr)
  | 69 => (1, 3, znr)
  | 70 => (3, 30, zrows o 71 30)
  | 101 => (1, 6, znr)
  | 102 => (1, 6, znr)
  | f => if f < 51 then (1, 16, znr) else if f < 68 then (1, 5, znr) else (1, 3, znr)
def zM (ly : zLy) (o : Nat) : Prop := ∀ f, f < 103 → ly (o + f) = zmk o f
theorem zM_0 {ly : zLy} {o : Nat} (h : zM ly o) : ly o = (7 + 5, 39, zmr o) := h 0 (by decide)
theorem zM_1 {ly : zLy} {o : Nat} (h : zM ly o) : ly (o + 1) = (1, 4, znr) := h 1 (by decide)
theorem zM_2 {ly : zLy} {o : Nat} (h : zM ly o) : ly (o + 2) = (1, 4, znr) := h 2 (by decide)
theorem zM_3 {ly : zLy} {o : Nat} (h : zM ly o) : ly (o + 3) = (1, 16, znr) := h 3 (by decide)
theorem zM_4 {ly : zLy} {o : Nat} (h : zM ly o) : ly (o + 4) = (1, 16, znr) := h 4 (by decide)
theorem zM_5 {ly : zLy} {o : Nat} (h : zM ly o) : ly (o + 5) = (1, 16, znr) := h 5 (by decide)
theorem zM_6 {ly : zLy} {o : Nat} (h : zM ly o) : ly (o + 6) = (1, 16, znr) := h 6 (by decide)
theorem zM_7 {ly : zLy} {o : Nat} (h : zM ly o) : ly (o + 7) = (3, 16, zrows o 8 16) := h 7 (by decide)
theorem zM_24 {ly : zLy} {o : Nat} (h : zM ly o) : ly (o + 24) = (3, 16, zrows o 25 16) := h 24 (by decide)
theorem zM_41 {ly : zLy} {o : Nat} (h : zM ly o) : ly (o + 41) = (1, 16, znr) := h 41 (by decide)
theorem zM_42 {ly : zLy} {o : Nat} (h : zM ly o) : ly (o + 42) = (1, 16, znr) := h 42 (by decide)
theorem zM_43 {ly : zLy} {o : Nat} (h : zM ly o) : ly (o + 43) = (1, 16, znr) := h 43 (by decide)
theorem zM_44 {ly : zLy} {o : Nat} (h : zM ly o) : ly (o + 44) = (1, 16, znr) := h 44 (by decide)
theorem zM_45 {ly : zLy} {o : Nat} (h : zM ly o) : ly (o + 45) = (1, 16, znr) := h 45 (by decide)
theorem zM_46 {ly : zLy} {o : Nat} (h : zM ly o) : ly (o + 46) = (1, 16, znr) := h 46 (by decide)
theorem zM_47 {ly : zLy} {o : Nat} (h : zM ly o) : ly (o + 47) = (1, 16, znr) := h 47 (by decide)
theorem zM_48 {ly : zLy} {o : Nat} (h : zM ly o) : ly (o + 48) = (1, 16, znr) := h 48 (by decide)
theorem zM_49 {ly : zLy} {o : Nat} (h : zM ly o) : ly (o + 49) = (1, 16, znr) := h 49 (by decide)
theorem zM_50 {ly : zLy} {o : Nat} (h : zM ly o) : ly (o + 50) = (1, 16, znr) := h 50 (by decide)
theorem zM_51 {ly : zLy} {o : Nat} (h : zM ly o) : ly (o + 51) = (3, 16, zrows o 52 16) := h 51 (by decide)
theorem zM_68 {ly : zLy} {o : Nat} (h : zM ly o) : ly (o + 68) = (1, 3, znr) := h 68 (by decide)
theorem zM_69 {ly : zLy} {o : Nat} (h : zM ly o) : ly (o + 69) = (1, 3, znr) := h 69 (by decide)
theorem zM_70 {ly : zLy} {o : Nat} (h : zM ly o) : ly (o + 70) = (3, 30, zrows o 71 30) := h 70 (by decide)
theorem zM_101 {ly : zLy} {o : Nat} (h : zM ly o) : ly (o + 101) = (1, 6, znr) := h 101 (by decide)
theorem zM_102 {ly : zLy} {o : Nat} (h : zM ly o) : ly (o + 102) = (1, 6, znr) := h 102 (by decide)
theorem zM_code {ly : zLy} {o : Nat} (h : zM ly o) {t : Nat} (ht : t < 16) : ly (o + (8 + t)) = (1, 16, znr) := by
  rw [h (8 + t) (by omega)]
  have : ∀ t, t < 16 → (8 + t ≠ 0 ∧ 8 + t ≠ 1) → zmk o (8 + t) = (1, 16, znr) := by
    intro t ht _
    match t, ht with
    | 0, _ => rfl
    | 1, _ => rfl
    | 2, _ => rfl
    | 3, _ => rfl
    | 4, _ => rfl
    | 5, _ => rfl
    | 6, _ => rfl
    | 7, _ => rfl
    | 8, _ => rfl
    | 9, _ => rfl
    | 10, _ => rfl
    | 11, _ => rfl
    | 12, _ => rfl
    | 13, _ => rfl
    | 14, _ => rfl
    | 15, _ => rfl
    | t + 16, h => exact absurd h (by omega)
  exact this t ht (by omega)
theorem zM_num {ly : zLy} {o : Nat} (h : zM ly o) {t : Nat} (ht : t < 16) : ly (o + (25 + t)) = (1, 16, znr) := by
  rw [h (25 + t) (by omega)]
  have : ∀ t, t < 16 → (25 + t ≠ 0 ∧ 25 + t ≠ 1) → zmk o (25 + t) = (1, 16, znr) := by
    intro t ht _
    match t, ht with
    | 0, _ => rfl
    | 1, _ => rfl
    | 2, _ => rfl
    | 3, _ => rfl
    | 4, _ => rfl
    | 5, _ => rfl
    | 6, _ => rfl
    | 7, _ => rfl
    | 8, _ => rfl
    | 9, _ => rfl
    | 10, _ => rfl
    | 11, _ => rfl
    | 12, _ => rfl
    | 13, _ => rfl
    | 14, _ => rfl
    | 15, _ => rfl
    | t + 16, h => exact absurd h (by omega)
  exact this t ht (by omega)
theorem zM_cnt {ly : zLy} {o : Nat} (h : zM ly o) {t : Nat} (ht : t < 16) : ly (o + (52 + t)) = (1, 5, znr) := by
  rw [h (52 + t) (by omega)]
  have : ∀ t, t < 16 → (52 + t ≠ 0 ∧ 52 + t ≠ 1) → zmk o (52 + t) = (1, 5, znr) := by
    intro t ht _
    match t, ht with
    | 0, _ => rfl
    | 1, _ => rfl
    | 2, _ => rfl
    | 3, _ => rfl
    | 4, _ => rfl
    | 5, _ => rfl
    | 6, _ => rfl
    | 7, _ => rfl
    | 8, _ => rfl
    | 9, _ => rfl
    | 10, _ => rfl
    | 11, _ => rfl
    | 12, _ => rfl
    | 13, _ => rfl
    | 14, _ => rfl
    | 15, _ => rfl
    | t + 16, h => exact absurd h (by omega)
  exact this t ht (by omega)
theorem zM_ran {ly : zLy} {o : Nat} (h : zM ly o) {t : Nat} (ht : t < 30) : ly (o + (71 + t)) = (1, 3, znr) := by
  rw [h (71 + t) (by omega)]
  have : ∀ t, t < 30 → (71 + t ≠ 0 ∧ 71 + t ≠ 1) → zmk o (71 + t) = (1, 3, znr) := by
    intro t ht _
    match t, ht with
    | 0, _ => rfl
    | 1, _ => rfl
    | 2, _ => rfl
    | 3, _ => rfl
    | 4, _ => rfl
    | 5, _ => rfl
    | 6, _ => rfl
    | 7, _ => rfl
    | 8, _ => rfl
    | 9, _ => rfl
    | 10, _ => rfl
    | 11, _ => rfl
    | 12, _ => rfl
    | 13, _ => rfl
    | 14, _ => rfl
    | 15, _ => rfl
    | 16, _ => rfl
    | 17, _ => rfl
    | 18, _ => rfl
    | 19, _ => rfl
    | 20, _ => rfl
    | 21, _ => rfl
    | 22, _ => rfl
    | 23, _ => rfl
    | 24, _ => rfl
    | 25, _ => rfl
    | 26, _ => rfl
    | 27, _ => rfl
    | 28, _ => rfl
    | 29, _ => rfl
    | t + 30, h => exact absurd h (by omega)
  exact this t ht (by omega)
theorem zrows_at {o s n : Nat} {i : Int32} (h : vp_in i n) : zrows o s n (ix i) = some (o + (s + ix i)) := by
  have : i.toNatClampNeg < n := Nat.not_le.mp fun q => h (Or.inr q)
  unfold zrows
  rw [if_pos this]
theorem zin_lt {i : Int32} {n : Nat} (h : vp_in i n) : ix i < n := Nat.not_le.mp fun q => h (Or.inr q)

abbrev ztk (i : Nat) : Nat := 15 + 5 * i
def zcr0 (o : Nat) : Nat → Option Nat := fun k => match k with
  | 0 => some (o + 1) | 1 => some (o + 3) | 2 => some (o + 8) | 3 => some (o + 9) | 4 => some (o + 10) | 5 => some (o + 11) | 6 => some (o + 12) | 7 => some (o + 13) | 8 => some (o + 14)
  | _ => none
def zcr1 (o : Nat) : Nat → Option Nat := fun k => match k with
  | 5 => some (o + 2)
  | _ => none
def zcr3 (o : Nat) : Nat → Option Nat := fun k => match k with
  | 3 => some (o + 4)
  | _ => none
def zcrT (o i : Nat) : Nat → Option Nat := fun k => match k with
  | 1 => some (o + (ztk i + 1))
  | 2 => some (o + (ztk i + 4))
  | _ => none
def zcrP (o i : Nat) : Nat → Option Nat := fun k => match k with
  | 2 => some (o + (ztk i + 2))
  | 3 => some (o + (ztk i + 3))
  | _ => none
def zcrA (o : Nat) : Nat → Option Nat := fun j => if j < 16 then some (o + ztk j) else none
/-- a machine stands at o -/
def zC (ly : zLy) (o : Nat) : Prop := ly o = (0 + 5, 13, zcr0 o) ∧ ly (o + 1) = (2 + 5, 6, zcr1 o) ∧ ly (o + 2) = (1, 4, znr) ∧ ly (o + 3) = (5 + 5, 4, zcr3 o) ∧ ly (o + 4) = (3, 3, zrows o 5 3) ∧ (∀ p, p < 3 → ly (o + (5 + p)) = (1, 30, znr)) ∧ ly (o + 8) = (4, 16, zcrA o) ∧
  ly (o + 9) = (1, 4, znr) ∧ ly (o + 10) = (1, 6, znr) ∧ ly (o + 11) = (1, 6, znr) ∧ ly (o + 12) = (1, 3, znr) ∧ ly (o + 13) = (1, 3, znr) ∧ ly (o + 14) = (1, 4, znr) ∧
  ∀ i, i < 16 → ly (o + ztk i) = (4 + 5, 16, zcrT o i) ∧ ly (o + (ztk i + 1)) = (1 + 5, 4, zcrP o i) ∧ ly (o + (ztk i + 2)) = (1, 16, znr) ∧ ly (o + (ztk i + 3)) = (1, 16, znr) ∧ ly (o + (ztk i + 4)) = (3 + 5, 5, znr)
theorem zC_0 {ly : zLy} {o : Nat} (h : zC ly o) : ly o = (0 + 5, 13, zcr0 o) := h.1
theorem zC_1 {ly : zLy} {o : Nat} (h : zC ly o) : ly (o + 1) = (2 + 5, 6, zcr1 o) := h.2.1
theorem zC_2 {ly : zLy} {o : Nat} (h : zC ly o) : ly (o + 2) = (1, 4, znr) := h.2.2.1
theorem zC_3 {ly : zLy} {o : Nat} (h : zC ly o) : ly (o + 3) = (5 + 5, 4, zcr3 o) := h.2.2.2.1
theorem zC_4 {ly : zLy} {o : Nat} (h : zC ly o) : ly (o + 4) = (3, 3, zrows o 5 3) := h.2.2.2.2.1
theorem zC_ran {ly : zLy} {o : Nat} (h : zC ly o) {p : Nat} (hp : p < 3) : ly (o + (5 + p)) = (1, 30, znr) := h.2.2.2.2.2.1 p hp
theorem zC_8 {ly : zLy} {o : Nat} (h : zC ly o) : ly (o + 8) = (4, 16, zcrA o) := h.2.2.2.2.2.2.1
theorem zC_9 {ly : zLy} {o : Nat} (h : zC ly o) : ly (o + 9) = (1, 4, znr) := h.2.2.2.2.2.2.2.1
theorem zC_10 {ly : zLy} {o : Nat} (h : zC ly o) : ly (o + 10) = (1, 6, znr) := h.2.2.2.2.2.2.2.2.1
theorem zC_11 {ly : zLy} {o : Nat} (h : zC ly o) : ly (o + 11) = (1, 6, znr) := h.2.2.2.2.2.2.2.2.2.1
theorem zC_12 {ly : zLy} {o : Nat} (h : zC ly o) : ly (o + 12) = (1, 3, znr) := h.2.2.2.2.2.2.2.2.2.2.1
theorem zC_13 {ly : zLy} {o : Nat} (h : zC ly o) : ly (o + 13) = (1, 3, znr) := h.2.2.2.2.2.2.2.2.2.2.2.1
theorem zC_14 {ly : zLy} {o : Nat} (h : zC ly o) : ly (o + 14) = (1, 4, znr) := h.2.2.2.2.2.2.2.2.2.2.2.2.1
theorem zC_t {ly : zLy} {o : Nat} (h : zC ly o) {i : Nat} (hi : i < 16) : ly (o + ztk i) = (4 + 5, 16, zcrT o i) := (h.2.2.2.2.2.2.2.2.2.2.2.2.2 i hi).1
theorem zC_p {ly : zLy} {o : Nat} (h : zC ly o) {i : Nat} (hi : i < 16) : ly (o + (ztk i + 1)) = (1 + 5, 4, zcrP o i) := (h.2.2.2.2.2.2.2.2.2.2.2.2.2 i hi).2.1
theorem zC_c {ly : zLy} {o : Nat} (h : zC ly o) {i : Nat} (hi : i < 16) : ly (o + (ztk i + 2)) = (1, 16, znr) := (h.2.2.2.2.2.2.2.2.2.2.2.2.2 i hi).2.2.1
theorem zC_n {ly : zLy} {o : Nat} (h : zC ly o) {i : Nat} (hi : i < 16) : ly (o + (ztk i + 3)) = (1, 16, znr) := (h.2.2.2.2.2.2.2.2.2.2.2.2.2 i hi).2.2.2.1
theorem zC_y {ly : zLy} {o : Nat} (h : zC ly o) {i : Nat} (hi : i < 16) : ly (o + (ztk i + 4)) = (3 + 5, 5, znr) := (h.2.2.2.2.2.2.2.2.2.2.2.2.2 i hi).2.2.2.2
theorem zcrA_at {o : Nat} {i : Int32} (h : vp_in i 16) : zcrA o (ix i) = some (o + ztk (ix i)) := by
  unfold zcrA
  rw [if_pos (zin_lt h)]

/-- plain ends, the answer and the state by equations -/
theorem zpl_i {n N o : Nat} {ly : zLy} {τ : zTu} {σ M M' : zSg} {x y : Int32} (h : x = y) (hM : M = M') : ∀ z, n ≤ z → zPl n ly τ (zwr σ o N M') (some (.int y)) (.inl (some (.int x))) z ly τ (zwr σ o N M) := fun z hz => ⟨by rw [h], hz, rfl, rfl, by rw [hM]⟩
theorem zpl_v {n N o : Nat} {ly : zLy} {τ : zTu} {σ M M' : zSg} (hM : M = M') : ∀ z, n ≤ z → zPl n ly τ (zwr σ o N M') none (.inl none) z ly τ (zwr σ o N M) := fun z hz => ⟨rfl, hz, rfl, rfl, by rw [hM]⟩
theorem zpl_is {n : Nat} {ly : zLy} {τ : zTu} {σ : zSg} {x y : Int32} (h : x = y) : ∀ z, n ≤ z → zPl n ly τ σ (some (.int y)) (.inl (some (.int x))) z ly τ σ := fun z hz => ⟨by rw [h], hz, rfl, rfl, rfl⟩
theorem zif_f {b : Bool} (h : b = false) : ¬ b = true := by rw [h]; decide
theorem zin_i {x : Int32} {n : Nat} (h : 0 ≤ x.toInt ∧ x.toInt < n) : vp_in x n := vp_in_iff.mpr h

