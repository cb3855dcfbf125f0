/-! The class, its small parts: M f j is place j of the cell f of a machine's 95 -/
theorem zlk2 (a b d : Int) {x : Int} (h0 : x ≠ 0) (h1 : x ≠ 1) : Op.lookupswitch.offset [(0, a), (1, b)] d x = d := by
  have h0' : ¬ (0 : Int) = x := fun h => h0 h.symm
  have h1' : ¬ (1 : Int) = x := fun h => h1 h.symm
  simp [Op.lookupswitch.offset, h0, h1, h0', h1']
theorem zin_c {x k : Int32} {n : Nat} (h0 : ¬ x < 0) (h1 : x < k) (hk : k.toInt = n) : vp_in x n := by
  rw [Int32.lt_iff_toInt_lt] at h0 h1
  rw [show (0 : Int32).toInt = 0 from rfl] at h0
  exact zin_i ⟨by omega, by omega⟩
theorem zpl_r {n : Nat} {S : Nat → Prop} {ly : zLy} {τ : zTu} {σ : zSg} {v w : Option Value} (hS : ∀ z, S z → n ≤ z) (h : w = v) : ∀ z, S z → zPl n ly τ σ v (.inl w) z ly τ σ := fun z hz => ⟨by rw [h], hS z hz, rfl, rfl, rfl⟩
def cF_codeAt (M : zSg) (i : Nat) (x : Int32) : Int32 := if x < 0 then 0 else if x < 16 then M (ztk i + 2) (ix x) else 0
def cF_numAt (M : zSg) (i : Nat) (x : Int32) : Int32 := if x < 0 then 0 else if x < 16 then M (ztk i + 3) (ix x) else 0
def cF_endsRun (M : zSg) (i : Nat) : Bool := if 0 < M (ztk i + 1) 1 then (if cF_codeAt M i (M (ztk i + 1) 1 - 1) = 0 then true else false) else false
def cF_append (M : zSg) (i : Nat) (a b : Int32) : zSg := if M (ztk i + 1) 1 < 0 then M else if M (ztk i + 1) 1 < 16 then
    (let M1 := zup M (ztk i + 2) (ix (M (ztk i + 1) 1)) a
    let M2 := zup M1 (ztk i + 3) (ix (M1 (ztk i + 1) 1)) b
    zup M2 (ztk i + 1) 1 (M2 (ztk i + 1) 1 + 1)) else M
def cF_begins (t k : Int32) : Bool := if 0 < k then (if t - t / k * k = 0 then true else false) else false
def cF_endsTurn (M : zSg) (l t : Int32) : Bool := if M 1 1 = 0 then (if t < M 1 2 then false else true) else if M 1 1 = 1 then (if t < M 1 2 <<< (l &&& 31) then false else true) else false
def cF_countRun (M : zSg) (i : Nat) (t : Int32) : zSg :=
  let M1 := if M (ztk i + 4) 0 = 0 then zup M (ztk i + 4) 3 t else M
  zup M1 (ztk i + 4) 0 (M1 (ztk i + 4) 0 + 1)
def cF_key (M : zSg) (i : Nat) (w : Int32) : Int32 := if w = 0 then M (ztk i) 3 else if w = 1 then M (ztk i) 10 else M (ztk i) 11
def cF_waitsAt (M : zSg) (i : Nat) (a b : Int32) : Bool := if M (ztk i) 5 = a then (if M (ztk i) 13 = b then true else false) else false
def cF_isThrough (M : zSg) (i : Nat) : Bool := if M (ztk i) 8 < M (ztk i + 1) 0 then false else true
def cF_comesAhead (M : zSg) (i j : Nat) : Bool := if M (ztk i) 15 = M (ztk j) 15 then (if M (ztk i) 5 = M (ztk j) 5 then (if M (ztk i) 9 < M (ztk j) 9 then true else false) else if M (ztk i) 5 = 2 then true else false) else if M (ztk i) 15 < M (ztk j) 15 then true else false
def cF_inheritsAhead (M : zSg) (i j : Nat) : Bool := if M (ztk i) 15 = M (ztk j) 15 then (if M (ztk i) 14 < M (ztk j) 14 then true else false) else if M (ztk i) 15 < M (ztk j) 15 then true else false
def cF_addTime (M : zSg) (i : Nat) : zSg := if 0 < 8 - M (ztk i) 3 then zup M (ztk i) 11 (M (ztk i) 11 + 840 / (8 - M (ztk i) 3)) else M
def cF_tell (M : zSg) (i : Nat) (w : Int32) : Int32 := if w = 0 then M (ztk i + 4) 0 else if w = 1 then M (ztk i + 4) 1 else if w = 2 then M (ztk i + 4) 2 else if w = 3 then M (ztk i + 4) 3 else M (ztk i + 4) 4
def cF_countStep (M : zSg) (i : Nat) : zSg :=
  let M1 := zup M (ztk i) 7 (M (ztk i) 7 + 1)
  if M1 (ztk i) 7 < cF_numAt M1 i (M1 (ztk i) 6) then M1 else
    let M2 := zup M1 (ztk i) 7 0
    let M3 := zup M2 (ztk i) 6 (M2 (ztk i) 6 + 1)
    if M3 (ztk i) 6 < M3 (ztk i + 1) 1 then M3 else
      let M4 := zup M3 (ztk i) 6 0
      zup M4 (ztk i) 8 (M4 (ztk i) 8 + 1)
def cF_note (M : zSg) (p t v : Int32) : zSg := if p < 0 then M else if p < 3 then (if t < 0 then M else zup M (5 + ix p) (ix (t - t / 30 * 30)) v) else M
def cF_offer (M : zSg) (b : Bool) : zSg :=
  let M1 := zup M 3 2 (M 3 2 + 1)
  if b = true then M1 else zup M1 3 1 (M1 3 1 + 1)
def cF_ranIn (M : zSg) (p t : Int32) : Int32 := if p < 0 then -2 else if p < 3 then (if t < 0 then -2 else M (5 + ix p) (ix (t - t / 30 * 30))) else -2
theorem zin_mod {t : Int32} (h : ¬ t < 0) : vp_in (t - t / 30 * 30) 30 := by
  have h0 : 0 ≤ t.toInt := by rw [Int32.lt_iff_toInt_lt, show (0 : Int32).toInt = 0 from rfl] at h; omega
  have e : (t % 30).toInt = t.toInt.tmod 30 := by rw [Int32.toInt_mod]; rfl
  have e2 : t - t / 30 * 30 = t % 30 := by
    apply Int32.toInt_inj.mp
    rw [e]
    have h1 := zrng t
    have hd : (t / 30).toInt = t.toInt.tdiv 30 := by
      rw [Int32.toInt_div]
      have : (30 : Int32).toInt = 30 := rfl
      rw [this]
      have hb := Int.tdiv_nonneg h0 (show (0 : Int) ≤ 30 by decide)
      have hc : t.toInt.tdiv 30 ≤ t.toInt := by
        rw [Int.tdiv_eq_ediv_of_nonneg h0]; omega
      exact Int.bmod_eq_of_le (by omega) (by omega)
    have hb := Int.tdiv_nonneg h0 (show (0 : Int) ≤ 30 by decide)
    have hq : t.toInt.tdiv 30 = t.toInt / 30 := Int.tdiv_eq_ediv_of_nonneg h0
    have hm : (t / 30 * 30).toInt = t.toInt / 30 * 30 := by
      rw [Int32.toInt_mul, hd, hq, show (30 : Int32).toInt = 30 from rfl]
      exact Int.bmod_eq_of_le (by omega) (by omega)
    rw [fb_subI (by rw [hm]; omega) (by rw [hm]; omega), hm, Int.tmod_eq_emod_of_nonneg h0]
    omega
  rw [e2]
  refine zin_i ⟨?_, ?_⟩
  · rw [e, Int.tmod_eq_emod_of_nonneg h0]; omega
  · rw [e, Int.tmod_eq_emod_of_nonneg h0]; show t.toInt % 30 < 30; omega
