/-! The class, made: cells one behind the other -/
def zPn (o m : Nat) (mk : Nat → zKd) (M : zSg) (ly : zLy) (σ : zSg) : zPost := fun r z ly' τ' σ' => r = .inl none ∧ z = o + m ∧ (∀ f, f < m → ly' (o + f) = mk f) ∧ (∀ a, a < o ∨ o + m ≤ a → ly' a = ly a) ∧ σ' = zwr σ o m M
theorem zrow_wr (σ : zSg) (q : Nat) : zrow σ q (fun _ => 0) = zwr σ q 1 (fun _ _ => 0) := by
  funext a
  by_cases h : a = q
  · subst h
    rw [zrow_eq]
    funext j
    unfold zwr
    rw [if_pos (by omega)]
  · rw [zrow_ne _ _ h, zwr_out _ _ (by omega)]
theorem zwr_app (σ : zSg) {o m k : Nat} {M N : zSg} (h : ∀ f, f < k → N f = M (m + f)) : zwr (zwr σ o m M) (o + m) k N = zwr σ o (m + k) M := by
  funext a
  by_cases h1 : o + m ≤ a ∧ a < o + m + k
  · obtain ⟨f, rfl⟩ : ∃ f, a = o + m + f := ⟨a - (o + m), by omega⟩
    funext j
    rw [zwr_in (f := f) _ _ j (by omega), show o + m + f = o + (m + f) by omega, zwr_in (f := m + f) _ _ j (by omega), h f (by omega)]
  · rw [zwr_out _ _ (by omega)]
    funext j
    unfold zwr
    by_cases h2 : o ≤ a ∧ a < o + m
    · rw [if_pos h2, if_pos (by omega)]
    · rw [if_neg h2, if_neg (by omega)]
section ZIN
variable {G : zGm} {X : zCx} {own : String} {cc : ByteArray} {nL bc bs : Nat} {ly ly1 : zLy} {τ : zTu} {σ M : zSg} {pc o m c n : Nat} {mk : Nat → zKd} {rf : Nat → Option Nat} {ls : List (Option Value)} {st : List Value}
theorem zi_newO (hO : zOk G X own cc nL) {index c' n' : Nat} (hc : c' < 8) (hw1 : Cond.classLink own index (zRn c') ∈ lw_tbl) (hw2 : Cond.instantiable (zRn c') (zN c') ∈ lw_tbl) (hw3 : Cond.initialized (zRn c') ∈ lw_tbl) (hn : zN c' = n') (hb1 : 1 ≤ bc) (hb2 : n' ≤ bs) (hdg : decode cc pc = .ok (.new index, 3))
    (kk : ∀ ly2 τ2, ly2 (o + m) = (c' + 5, n', znr) → (∀ a, a ≠ o + m → ly2 a = ly1 a) → zV G X nL (bc - 1) (bs - n') (fun z => z = o + m + 1) ly2 τ2 (zwr (zwr σ o m M) (o + m) 1 (fun _ _ => 0)) (pc + 3) ls (.ref (o + m) :: st)) : zV G X nL bc bs (fun z => z = o + m) ly1 τ (zwr σ o m M) pc ls st := by
  subst hn
  refine zr_new hO hc hw1 hw2 hw3 hb1 hb2 hdg (fun q hq => ?_)
  subst hq
  rw [zrow_wr]
  exact kk _ _ (zlk_eq _ _ _) (fun a ha => zlk_ne _ _ ha)
theorem zi_tail {m' : Nat} {mk' : Nat → zKd} {M' : zSg} {ly2 ly' : zLy} {σ' : zSg} (hB : zBI mk o m c n rf ly ly1) (hm0 : 0 < m) (hl2 : ∀ a, a ≠ o + m → ly2 a = ly1 a) (h0 : 0 < m') (hmk : ∀ f, f < m' → mk (m + f) = mk' f) (hMM : ∀ f, f < m' → M' f = M (m + f)) (h3 : ∀ f, f < m' → ly' (o + m + f) = mk' f) (h4 : ∀ a, a < o + m ∨ o + m + m' ≤ a → ly' a = ly2 a) (h5 : σ' = zwr (zwr σ o m M) (o + m) m' M') : zBI mk o (m + m') c n rf ly ly' ∧ σ' = zwr σ o (m + m') M := by
  refine ⟨⟨?_, fun f h1 h2 => ?_, fun a ha => ?_⟩, ?_⟩
  · rw [h4 o (by omega), hl2 o (by omega)]; exact hB.1
  · by_cases hf : f < m
    · rw [h4 _ (by omega), hl2 _ (by omega)]; exact hB.2.1 f h1 hf
    · have := h3 (f - m) (by omega)
      rw [show o + m + (f - m) = o + f by omega] at this
      rw [this, ← hmk (f - m) (by omega), show m + (f - m) = f by omega]
  · rw [h4 a (by omega), hl2 a (by omega)]; exact hB.2.2 a (by omega)
  · rw [h5, zwr_app _ hMM]
theorem zi_init {l : Launch} {D d bc' bs' index maxL : Nat} {y : MethodName} {bytes : ByteArray} (hO : zOk G X own cc nL) (hRm : zRm X D) (hL : zLn X l) (hd : d + 1 ≤ D) (hmx : maxL ≤ 17) {As : List Value} (hy1 : y.name = "<init>") {m' : Nat} {mk' : Nat → zKd} {M' : zSg} {ly2 : zLy}
    (hM : zEv l G d bc' bs' (y, bytes, maxL, none) (.ref (o + m) :: As) (fun z => z = o + m + 1) ly2 τ (zwr (zwr σ o m M) (o + m) 1 (fun _ _ => 0)) (zPn (o + m) m' mk' M' ly2 (zwr σ o m M)))
    (hw1 : Cond.methodLink own index y ∈ lw_tbl) (hw2 : Cond.instanceMethod y ∈ lw_tbl) (hw4 : Cond.code y bytes maxL none ∈ lw_tbl) (hw5 : Cond.initialized y.cls ∈ lw_tbl)
    (hdy : y.cls ≠ "java/lang/invoke/MethodHandle" ∧ y.cls ≠ "java/lang/invoke/VarHandle" ∧ (parseMethodDescriptor y.desc).map (fun d => d.parameters.length) = some As.length) (hcat : (st.map fun v => v.category).sum ≤ 8) (hdg : decode cc pc = .ok (.invokespecial index, 3)) (hbc : bc' ≤ bc) (hbs : bs' ≤ bs)
    (hB : zBI mk o m c n rf ly ly1) (hm0 : 0 < m) (hl2 : ∀ a, a ≠ o + m → ly2 a = ly1 a) (h0 : 0 < m') (hmk : ∀ f, f < m' → mk (m + f) = mk' f) (hMM : ∀ f, f < m' → M' f = M (m + f))
    (kk : ∀ ly3 τ3, zBI mk o (m + m') c n rf ly ly3 → zV G X nL (bc - bc') (bs - bs') (fun z => z = o + (m + m')) ly3 τ3 (zwr σ o (m + m') M) (pc + 3) ls st) : zV G X nL bc bs (fun z => z = o + m + 1) ly2 τ (zwr (zwr σ o m M) (o + m) 1 (fun _ _ => 0)) pc ls (As.reverse ++ .ref (o + m) :: st) :=
  z_callI hO hRm hL hd hmx hy1 rfl hM hw1 hw2 hw4 hw5 hdy hcat hdg hbc hbs (fun E z ly' τ' σ' h => absurd h.1 (by simp)) (fun v z ly' τ' σ' h => by
    obtain ⟨h1, rfl, h3, h4, h5⟩ := h
    obtain ⟨g1, rfl⟩ := zi_tail hB hm0 hl2 h0 hmk hMM h3 h4 h5
    cases h1
    rw [show o + m + m' = o + (m + m') by omega]
    exact kk _ _ g1)
theorem zi_initN {l : Launch} {D d bc' bs' index maxL : Nat} {y : MethodName} {bytes : ByteArray} {host : String} (hO : zOk G X own cc nL) (hRm : zRm X D) (hL : zLn X l) (hd : d + 1 ≤ D) (hmx : maxL ≤ 17) {As : List Value} (hy1 : y.name = "<init>") {m' : Nat} {mk' : Nat → zKd} {M' : zSg} {ly2 : zLy}
    (hM : zEv l G d bc' bs' (y, bytes, maxL, none) (.ref (o + m) :: As) (fun z => z = o + m + 1) ly2 τ (zwr (zwr σ o m M) (o + m) 1 (fun _ _ => 0)) (zPn (o + m) m' mk' M' ly2 (zwr σ o m M)))
    (hw1 : Cond.methodLinkNest own index y host ∈ lw_tbl) (hw2 : Cond.instanceMethod y ∈ lw_tbl) (hw4 : Cond.code y bytes maxL none ∈ lw_tbl) (hw5 : Cond.initialized y.cls ∈ lw_tbl)
    (hdy : y.cls ≠ "java/lang/invoke/MethodHandle" ∧ y.cls ≠ "java/lang/invoke/VarHandle" ∧ (parseMethodDescriptor y.desc).map (fun d => d.parameters.length) = some As.length) (hcat : (st.map fun v => v.category).sum ≤ 8) (hdg : decode cc pc = .ok (.invokespecial index, 3)) (hbc : bc' ≤ bc) (hbs : bs' ≤ bs)
    (hB : zBI mk o m c n rf ly ly1) (hm0 : 0 < m) (hl2 : ∀ a, a ≠ o + m → ly2 a = ly1 a) (h0 : 0 < m') (hmk : ∀ f, f < m' → mk (m + f) = mk' f) (hMM : ∀ f, f < m' → M' f = M (m + f))
    (kk : ∀ ly3 τ3, zBI mk o (m + m') c n rf ly ly3 → zV G X nL (bc - bc') (bs - bs') (fun z => z = o + (m + m')) ly3 τ3 (zwr σ o (m + m') M) (pc + 3) ls st) : zV G X nL bc bs (fun z => z = o + m + 1) ly2 τ (zwr (zwr σ o m M) (o + m) 1 (fun _ _ => 0)) pc ls (As.reverse ++ .ref (o + m) :: st) :=
  z_callIN hO hRm hL hd hmx hy1 rfl hM hw1 hw2 hw4 hw5 hdy hcat hdg hbc hbs (fun E z ly' τ' σ' h => absurd h.1 (by simp)) (fun v z ly' τ' σ' h => by
    obtain ⟨h1, rfl, h3, h4, h5⟩ := h
    obtain ⟨g1, rfl⟩ := zi_tail hB hm0 hl2 h0 hmk hMM h3 h4 h5
    cases h1
    rw [show o + m + m' = o + (m + m') by omega]
    exact kk _ _ g1)
theorem zPn_of {r : Option Value} {τ : zTu} {m' : Nat} (hB : zBI mk o m c n rf ly ly1) (hm0 : 0 < m) (h0 : mk 0 = (c + 5, n, rf)) (hr : r = none) (hm : m = m') {z : Nat} (hz : z = o + m) : zPn o m' mk M ly σ (.inl r) z ly1 τ (zwr σ o m M) := by
  subst hr; subst hm
  refine ⟨rfl, hz, fun f hf => ?_, hB.2.2, rfl⟩
  by_cases h : f = 0
  · subst h; rw [h0]; exact hB.1
  · exact hB.2.1 f (by omega) hf
end ZIN
def mk1 (o f : Nat) : zKd := match f with
  | 0 => (1 + 5, 4, zrf (zrf znr 2 (some (o + 1))) 3 (some (o + 2)))
  | _ => (1, 16, znr)
def mk2 (o f : Nat) : zKd := match f with
  | 0 => (2 + 5, 6, zrf znr 5 (some (o + 1)))
  | _ => (1, 4, znr)
def mk3 (f : Nat) : zKd := match f with
  | _ => (3 + 5, 5, znr)
def mk4 (o f : Nat) : zKd := match f with
  | 0 => (4 + 5, 16, zrf (zrf znr 1 (some (o + 1))) 2 (some (o + 4)))
  | 1 => mk1 (o + 1) 0
  | 2 => mk1 (o + 1) 1
  | 3 => mk1 (o + 1) 2
  | _ => mk3 0
def mk5 (o f : Nat) : zKd := match f with
  | 0 => (5 + 5, 4, zrf znr 3 (some (o + 1)))
  | 1 => (3, 3, zrows o 2 3)
  | _ => (1, 30, znr)
def rf8 (o k : Nat) : Nat → Option Nat := fun j => if j < k then some (o + ztk j) else none
def rf0 (o : Nat) : Nat → Option Nat := zrf (zrf (zrf (zrf (zrf (zrf (zrf (zrf (zrf znr 0 (some (o + 1))) 1 (some (o + 3))) 2 (some (o + 8))) 3 (some (o + 9))) 4 (some (o + 10))) 5 (some (o + 11))) 6 (some (o + 12))) 7 (some (o + 13))) 8 (some (o + 14))
def mk0 (o : Nat) (r8 : Nat → Option Nat) (f : Nat) : zKd := match f with
  | 0 => (0 + 5, 13, rf0 o)
  | 1 => mk2 (o + 1) 0
  | 2 => mk2 (o + 1) 1
  | 3 => mk5 (o + 3) 0
  | 4 => mk5 (o + 3) 1
  | 5 => mk5 (o + 3) 2
  | 6 => mk5 (o + 3) 3
  | 7 => mk5 (o + 3) 4
  | 8 => (4, 16, r8)
  | 9 => (1, 4, znr)
  | 10 => (1, 6, znr)
  | 11 => (1, 6, znr)
  | 12 => (1, 3, znr)
  | 13 => (1, 3, znr)
  | 14 => (1, 4, znr)
  | f => mk4 (o + ztk ((f - 15) / 5)) ((f - 15) % 5)
def cN1 : zSg := fun f j => if f = 0 ∧ j = 0 then 1 else 0
def cN2 : zSg := fun f j => match f with
  | 0 => (match j with | 0 => 1 | 2 => 3 | 4 => 10 | _ => 0)
  | _ => 0
def cN3 : zSg := fun f j => if f = 0 ∧ (j = 3 ∨ j = 4) then -1 else 0
def cN4 (v : Int32) : zSg := fun f j => match f with
  | 0 => (if j = 0 then v else if j = 9 ∨ j = 13 then -1 else 0)
  | 1 => cN1 0 j
  | 4 => cN3 0 j
  | _ => 0
/-- a machine, made, before its rows are filled -/
def cN0 : zSg := fun f j => if f < 15 then (match f with | 1 => cN2 0 j | _ => 0) else cN4 (nI ((f - 15) / 5)) ((f - 15) % 5) j
/-- a machine, new -/
def cF_new : zSg := fun f j => if (f = 10 ∧ j < 6) ∨ (f = 12 ∧ j < 3) then -1 else cN0 f j
theorem mk0_t (o : Nat) (r : Nat → Option Nat) {k f : Nat} (hf : f < 5) : mk0 o r (15 + 5 * k + f) = mk4 (o + ztk k) f := by
  rw [show 15 + 5 * k + f = (5 * k + f) + 15 by omega]
  show mk4 (o + ztk ((5 * k + f + 15 - 15) / 5)) ((5 * k + f + 15 - 15) % 5) = _
  rw [show (5 * k + f + 15 - 15) / 5 = k by omega, show (5 * k + f + 15 - 15) % 5 = f by omega]
theorem cN0_t {k f : Nat} (hf : f < 5) : cN4 (nI k) f = cN0 (15 + 5 * k + f) := by
  funext j
  unfold cN0
  rw [if_neg (by omega), show (15 + 5 * k + f - 15) / 5 = k by omega, show (15 + 5 * k + f - 15) % 5 = f by omega]
theorem rf0_eq (o : Nat) : rf0 o = zcr0 o := by
  funext k
  match k with
  | 0 => rfl
  | 1 => rfl
  | 2 => rfl
  | 3 => rfl
  | 4 => rfl
  | 5 => rfl
  | 6 => rfl
  | 7 => rfl
  | 8 => rfl
  | k + 9 => simp [rf0, zrf, zcr0, znr]
theorem zC_of {o : Nat} {ly : zLy} (h : ∀ f, f < 95 → ly (o + f) = mk0 o (rf8 o 16) f) : zC ly o := by
  have e1 : zrf znr 5 (some (o + 2)) = zcr1 o := by
    funext k
    match k with
    | 0 => rfl
    | 1 => rfl
    | 2 => rfl
    | 3 => rfl
    | 4 => rfl
    | 5 => rfl
    | k + 6 => simp [zrf, zcr1, znr]
  have e3 : zrf znr 3 (some (o + 4)) = zcr3 o := by
    funext k
    match k with
    | 0 => rfl
    | 1 => rfl
    | 2 => rfl
    | 3 => rfl
    | k + 4 => simp [zrf, zcr3, znr]
  have e4 : zrows (o + 3) 2 3 = zrows o 5 3 := by
    funext k
    unfold zrows
    rw [show o + 3 + (2 + k) = o + (5 + k) by omega]
  have eT : ∀ i, zrf (zrf znr 1 (some (o + ztk i + 1))) 2 (some (o + ztk i + 4)) = zcrT o i := fun i => by
    funext k
    match k with
    | 0 => rfl
    | 1 => rfl
    | 2 => rfl
    | k + 3 => simp [zrf, zcrT, znr]
  have eP : ∀ i, zrf (zrf znr 2 (some (o + ztk i + 1 + 1))) 3 (some (o + ztk i + 1 + 2)) = zcrP o i := fun i => by
    funext k
    match k with
    | 0 => rfl
    | 1 => rfl
    | 2 => rfl
    | 3 => rfl
    | k + 4 => simp [zrf, zcrP, znr]
  refine ⟨?_, ?_, h 2 (by decide), ?_, ?_, fun p hp => ?_, h 8 (by decide), h 9 (by decide), h 10 (by decide), h 11 (by decide), h 12 (by decide), h 13 (by decide), h 14 (by decide), fun i hi => ⟨?_, ?_, ?_, ?_, ?_⟩⟩
  · rw [← rf0_eq]; exact h 0 (by decide)
  · rw [← e1]; exact h 1 (by decide)
  · rw [← e3]; exact h 3 (by decide)
  · rw [← e4]; exact h 4 (by decide)
  · rw [h (5 + p) (by omega)]
    match p, hp with
    | 0, _ => rfl
    | 1, _ => rfl
    | 2, _ => rfl
    | p + 3, h9 => exact absurd h9 (by omega)
  · rw [← eT]; exact (h (15 + 5 * i + 0) (by omega)).trans (mk0_t o _ (by decide))
  · rw [← eP]; exact (h (15 + 5 * i + 1) (by omega)).trans (mk0_t o _ (by decide))
  · exact (h (15 + 5 * i + 2) (by omega)).trans (mk0_t o _ (by decide))
  · exact (h (15 + 5 * i + 3) (by omega)).trans (mk0_t o _ (by decide))
  · exact (h (15 + 5 * i + 4) (by omega)).trans (mk0_t o _ (by decide))
