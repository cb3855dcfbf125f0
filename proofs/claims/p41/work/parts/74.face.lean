/-! The class's face: what is thrown, what is answered -/
section ZTW
variable {G : zGm} {X : zCx} {cc : ByteArray} {nL bc bs : Nat} {S : Nat → Prop} {ly : zLy} {τ : zTu} {σ : zSg} {pc : Nat} {ls : List (Option Value)} {st : List Value} {post : zPost}
theorem zr_throwW (hO : zOk G X RX6 cc nL) {ret : Option FieldType} (hE : zEnd G X post ret) (hN : zNH X) {D ik ic is : Nat} {cls : String} (hd : 6 ≤ D) (hRm : zRm X D) (hw : (zXw ik ic cls).all (fun w => decide (w ∈ lw_tbl) && ((goodWord w || zokw w) && vx_ot w)) = true) (hf : Bundle.fit cls = true) (his : is ∈ zStrs) (hcat : (st.map fun v => v.category).sum ≤ 8) (hb1 : 1 ≤ bc) (hb2 : 6 ≤ bs)
    (d0 : decode cc pc = .ok (.new ik, 3)) (d3 : decode cc (pc + 3) = .ok (.dup, 1)) (d4 : decode cc (pc + 4) = .ok (.ldc_w is, 3)) (d7 : decode cc (pc + 7) = .ok (.invokespecial ic, 3)) (d10 : decode cc (pc + 10) = .ok (.athrow, 1))
    (hp : ∀ z z', S z → z ≤ z' → post (.inr cls) z' ly τ σ) : zV G X nL bc bs S ly τ σ pc ls st := by
  obtain ⟨p, l, e, R, s, m, args, below, meth, c0, Q⟩ := X
  obtain ⟨hx, hb, hml, hown, hts, hlk, hK, htr⟩ := hO
  obtain ⟨hr, rfl⟩ := hE
  obtain ⟨hr1, hr2⟩ := hRm
  intro H locs cells slots la hR hS h1 h2 hl
  have hall : ∀ w ∈ zXw ik ic cls, w.before args s = true ∧ vx_ot w = true := by
    intro w hm
    have h9 := List.all_eq_true.mp hw w hm
    simp only [Bool.and_eq_true, Bool.or_eq_true, decide_eq_true_eq] at h9
    obtain ⟨g1, g2, g3⟩ := h9
    refine ⟨?_, g3⟩
    rcases g2 with g | g
    · exact hts w g1 g
    · exact zokw_use g (hK.2.2.2.2.2.2.1 w g1 g)
  obtain ⟨sa, hsa⟩ := hK.2.2.2.2.2.1 is his
  have hlen : zXn.length = 2 := rfl
  exact vx_throwSW (names := zXn) (A := zA G) (sa := sa) hx hb htr hown hf zXn_fit (hall _ List.mem_cons_self).1 (hall _ (List.mem_cons_of_mem _ List.mem_cons_self)).1 hsa
    (fun w h => (hall w (List.mem_cons_of_mem _ (List.mem_cons_of_mem _ h))).1) (fun w h => (hall w h).2) hK.2.2.2.1 hK.2.2.2.2.1 hS (hl.1.trans hml.symm) d0 d3 d4 d7 d10 (fun x h => absurd (hN x h) id)
    (by rw [hlen]; omega) (by rw [hlen]; omega) (by omega) (by omega) hlk
    (fun t ha hz hk => ⟨t.heap.size, ly, τ, σ, hp H.size t.heap.size hR.1 hz, ⟨rfl, fun a e he => ⟨(hR.2 a e he).1, (hR.2 a e he).2.kept (hk a (hR.2 a e he).2.lt)⟩⟩, Nat.le_trans hS.1 hz, fun q g1 g2 => (hk q (Nat.lt_of_lt_of_le g1 hS.1)).trans (hS.2.1 q g1 g2)⟩) (fun z hz => hS.2.2 z hz) (by omega) (by omega)
end ZTW
def eIA : String := "java/lang/IllegalArgumentException"
def eIS : String := "java/lang/IllegalStateException"
def eIX : String := "java/lang/IndexOutOfBoundsException"
def zPt (n : Nat) (ly : zLy) (τ : zTu) (σ : zSg) (E : String) : zPost := fun r z ly' τ' σ' => r = .inr E ∧ n ≤ z ∧ ly' = ly ∧ τ' = τ ∧ σ' = σ
abbrev zRs : Type := (zSg × Int32) ⊕ String
def zPx (n : Nat) (ly : zLy) (τ : zTu) (σ : zSg) (o : Nat) (A : zSg) (R : zRs) : zPost := fun r z ly' τ' σ' => n ≤ z ∧ ly' = ly ∧ τ' = τ ∧ (match R with | .inl q => r = .inl (some (.int q.2)) ∧ σ' = zwr σ o 95 q.1 | .inr E => r = .inr E ∧ σ' = zwr σ o 95 A)
theorem zPx_i {n z o : Nat} {ly : zLy} {τ : zTu} {σ A A' : zSg} {R : zRs} {v : Int32} (hz : n ≤ z) (h : R = .inl (A', v)) : zPx n ly τ σ o A R (.inl (some (.int v))) z ly τ (zwr σ o 95 A') := by
  subst h
  exact ⟨hz, rfl, rfl, rfl, rfl⟩
theorem zPx_x {n z o : Nat} {ly : zLy} {τ : zTu} {σ A : zSg} {R : zRs} {E : String} (hz : n ≤ z) (h : R = .inr E) : zPx n ly τ σ o A R (.inr E) z ly τ (zwr σ o 95 A) := by
  subst h
  exact ⟨hz, rfl, rfl, rfl, rfl⟩
theorem zVX_S {G : zGm} {X : zCx} {nL bc bs : Nat} {S S' : Nat → Prop} {ly : zLy} {τ : zTu} {σ : zSg} {pc : Nat} {ls : List (Option Value)} {st : List Value} {E : String} (hS : ∀ z, S z → S' z) (k : zVX G X nL bc bs S' ly τ σ pc ls st E) : zVX G X nL bc bs S ly τ σ pc ls st E := by
  obtain ⟨p, l, e, R, s, m, args, below, meth, c, Q⟩ := X
  exact fun H locs cells slots la q ce hR => k H locs cells slots la q ce (zR_S hR hS)
section ZT6
variable {G : zGm} {X : zCx} {own : String} {cc : ByteArray} {nL bc bs : Nat} {S : Nat → Prop} {ly : zLy} {τ : zTu} {σ : zSg} {pc : Nat} {ls : List (Option Value)} {st : List Value}
theorem zr_ST1 {l : Launch} {D d bc' bs' index maxL : Nat} {y : MethodName} {bytes : ByteArray} {ret : Option FieldType} (hO : zOk G X own cc nL) (hRm : zRm X D) (hL : zLn X l) (hd : d + 1 ≤ D) (hmx : maxL ≤ 17) {N0 : Nat} {a0 : Value} {ly' : zLy} {τ' : zTu} {σ' : zSg} {E : String} (hyC : y.cls = own)
    (hM : zEv l G d bc' bs' (y, bytes, maxL, ret) [a0] S ly τ σ (zPt N0 ly' τ' σ' E)) (hw1 : Cond.methodLink own index y ∈ lw_tbl) (hw2 : Cond.static y ∈ lw_tbl) (hw4 : Cond.code y bytes maxL ret ∈ lw_tbl) (hw5 : Cond.initialized own ∈ lw_tbl) (hdy : y.cls ≠ "java/lang/invoke/MethodHandle" ∧ y.cls ≠ "java/lang/invoke/VarHandle" ∧ (parseMethodDescriptor y.desc).map (fun d => d.parameters.length) = some 1) (hcat : (st.map fun v => v.category).sum ≤ 8) (hdg : decode cc pc = .ok (.invokestatic index, 3)) (hbc : bc' ≤ bc) (hbs : bs' ≤ bs)
    (kx : zVX G X nL (bc - bc') (bs - bs') (fun x => N0 ≤ x) ly' τ' σ' pc ls st E) : zV G X nL bc bs S ly τ σ pc ls (a0 :: st) :=
  z_callS (As := [a0]) hO hRm hL hd hmx hyC hM hw1 hw2 hw4 hw5 hdy hcat hdg hbc hbs (fun E9 z ly9 τ9 σ9 h => by
    obtain ⟨h1, h2, h3, h4, h5⟩ := h
    cases h1; subst h3; subst h4; subst h5
    exact zVX_S (fun x hx => by subst hx; exact h2) kx) (fun v9 z ly9 τ9 σ9 h => by cases h.1)
theorem zr_VT1 {l : Launch} {D d bc' bs' index maxL : Nat} {y : MethodName} {bytes : ByteArray} {ret : Option FieldType} (hO : zOk G X own cc nL) (hRm : zRm X D) (hL : zLn X l) (hd : d + 1 ≤ D) (hmx : maxL ≤ 17) {C : String} {b c n N0 : Nat} {rf : Nat → Option Nat} {a0 : Value} {ly' : zLy} {τ' : zTu} {σ' : zSg} {E : String} (hc8 : c < 8) (hly : ly b = (c + 5, n, rf)) (hC : C = zRn c) (hyC : y.cls = C)
    (hM : zEv l G d bc' bs' (y, bytes, maxL, ret) (.ref b :: [a0]) S ly τ σ (zPt N0 ly' τ' σ' E)) (hw1 : Cond.methodLink own index y ∈ lw_tbl) (hw2 : Cond.instanceMethod y ∈ lw_tbl) (hw3 : Cond.selects C y y ∈ lw_tbl) (hw4 : Cond.code y bytes maxL ret ∈ lw_tbl) (hw5 : Cond.initialized C ∈ lw_tbl) (hdy : y.cls ≠ "java/lang/invoke/MethodHandle" ∧ y.cls ≠ "java/lang/invoke/VarHandle" ∧ (parseMethodDescriptor y.desc).map (fun d => d.parameters.length) = some 1) (hcat : (st.map fun v => v.category).sum ≤ 8) (hdg : decode cc pc = .ok (.invokevirtual index, 3)) (hbc : bc' ≤ bc) (hbs : bs' ≤ bs)
    (kx : zVX G X nL (bc - bc') (bs - bs') (fun x => N0 ≤ x) ly' τ' σ' pc ls st E) : zV G X nL bc bs S ly τ σ pc ls (a0 :: .ref b :: st) :=
  z_callV (As := [a0]) hO hRm hL hd hmx hc8 hly hC hyC hM hw1 hw2 hw3 hw4 hw5 hdy hcat hdg hbc hbs (fun E9 z ly9 τ9 σ9 h => by
    obtain ⟨h1, h2, h3, h4, h5⟩ := h
    cases h1; subst h3; subst h4; subst h5
    exact zVX_S (fun x hx => by subst hx; exact h2) kx) (fun v9 z ly9 τ9 σ9 h => by cases h.1)
end ZT6
/-- the object of the class: its two machines -/
def zcr6 (o q : Nat) : Nat → Option Nat := fun k => match k with
  | 0 => some o
  | 1 => some q
  | _ => none
/-! The class's face: its functions -/
def cR_lock (q : Int32) : Option String := if q < 0 then some eIX else if q < 6 then none else some eIX
def cR_tried (t : Int32) : Option String := if t < 1 then some eIA else if 60 < t then some eIA else none
def cR_proc (A : zSg) (p : Int32) : Option String := if p < 0 then some eIX else if p < A 1 0 then none else some eIX
def cF_rt (A : zSg) (t : Int32) : Option Nat := match cF_at t with
  | none => none
  | some i => if t < A 0 10 then some i else none
theorem cF_rt_lt {A : zSg} {t : Int32} {i : Nat} (h : cF_rt A t = some i) : i < 16 := by
  unfold cF_rt at h
  cases hc : cF_at t with
  | none => rw [hc] at h; cases h
  | some j =>
    rw [hc] at h
    dsimp only at h
    split at h
    · cases h; exact cF_at_lt hc
    · cases h
def cF_isStep (c n : Int32) : Bool := if c = 0 then (if n < 1 then false else if 20 < n then false else true) else if c = 1 then (if n < 1 then false else if 40 < n then false else true) else if c = 2 then (if n < 0 then false else if n < 6 then true else false) else if c = 3 then (if n < 0 then false else if n < 6 then true else false) else if c = 4 then (if n < 0 then false else if n < 6 then true else false) else if c = 5 then (if n < 0 then false else if n < 6 then true else false) else if c = 6 then true else false
def cP_setProcessors (A : zSg) (p : Int32) : zRs := if p < 1 then .inr eIA else if 3 < p then .inr eIA else .inl (zup (cF_clear A) 1 0 p, A 1 0)
def cP_setWay (A : zSg) (a b c : Int32) : zRs := if a < 0 then .inr eIA else if 2 < a then .inr eIA else if b < 1 then .inr eIA else if 10 < b then .inr eIA else if c < 0 then .inr eIA else if 50 < c then .inr eIA else .inl (zup (zup (zup A 1 1 a) 1 2 b) 1 3 c, A 1 1)
def cP_setQuota (A : zSg) (g v : Int32) : zRs := if g < 0 then .inr eIX else if g < 4 then (if v < 0 then .inr eIA else if 50 < v then .inr eIA else .inl (zup A 2 (ix g) v, A 2 (ix g))) else .inr eIX
def cP_setPeriod (A : zSg) (v : Int32) : zRs := if v < 1 then .inr eIA else if 50 < v then .inr eIA else .inl (zup A 1 4 v, A 1 4)
def cP_addTask (A : zSg) (a b c : Int32) : zRs := if a < 0 then .inr eIA else if a < 8 then (if b < 0 then .inr eIA else if b < 4 then (if c < 1 then .inr eIA else if 5 < c then .inr eIA else (match cF_at (A 0 10) with
  | none => .inr eIS
  | some i => .inl (zup (zup (zup (zup A (ztk i) 3 a) (ztk i) 4 b) (ztk i + 1) 0 c) 0 10 (A 0 10 + 1), A 0 10))) else .inr eIA) else .inr eIA
def cP_addStep (A : zSg) (t a b : Int32) : zRs := match cF_rt A t with
  | none => .inr eIX
  | some i => if cF_isStep a b = true then (if A (ztk i) 5 = 0 then (if A (ztk i + 1) 1 < 16 then .inl (cF_append A i a b, (cF_append A i a b) (ztk i + 1) 1) else .inr eIS) else .inr eIS) else .inr eIA
def cP_start (A : zSg) (t : Int32) : zRs := match cF_rt A t with
  | none => .inr eIX
  | some i => if A (ztk i) 5 = 0 then (if cF_endsRun A i = true then .inl (cF_start A i, (cF_start A i) (ztk i) 9) else .inr eIS) else .inr eIS
def cP_setRank (A : zSg) (t r : Int32) : zRs := match cF_rt A t with
  | none => .inr eIX
  | some i => if r < 0 then .inr eIA else if r < 8 then .inl (zup A (ztk i) 3 r, A (ztk i) 3) else .inr eIA
def cP_end (A : zSg) (t : Int32) : zRs := match cF_rt A t with
  | none => .inr eIX
  | some i => if A (ztk i) 5 = 6 then .inr eIS else .inl (cF_finish A i, A (ztk i) 5)
def cP_signal (A : zSg) (e : Int32) : zRs := match cR_lock e with
  | some E => .inr E
  | none => .inl (cF_signal A e, cF_number (cF_signal A e) e)
def cF_ticks (A : zSg) (n : Nat) : zSg := (List.range n).foldl (fun s _ => cF_tick s) A
def cP_tick (A : zSg) (t : Int32) : zRs := if t < 1 then .inr eIA else if 40 < t then .inr eIA else .inl (cF_ticks A (ix t), cF_ticks A (ix t) 0 9)
def cP_of (A : zSg) (t : Int32) (f : Nat → Int32) : zRs := match cF_rt A t with
  | none => .inr eIX
  | some i => .inl (A, f i)
def cF_stepOf (A : zSg) (i : Nat) : Int32 := if A (ztk i) 5 = 6 then A (ztk i + 1) 1 else A (ztk i) 6
def cP_lentKey (A : zSg) (t : Int32) : zRs := match cF_rt A t with
  | none => .inr eIX
  | some i => .inl (cF_lent A, cF_lent A (ztk i) 15)
def cP_told (A : zSg) (t w : Int32) : zRs := match cF_rt A t with
  | none => .inr eIX
  | some i => if w < 0 then .inr eIA else if w < 5 then .inl (A, cF_tell A i w) else .inr eIA
def cP_on (A : zSg) (p : Int32) : zRs := match cR_proc A p with
  | some E => .inr E
  | none => .inl (A, cF_on A p)
def cP_ran (A : zSg) (p b : Int32) : zRs := match cR_proc A p with
  | some E => .inr E
  | none => if b < 1 then .inr eIA else if 30 < b then .inr eIA else .inl (A, cF_ranIn A p (A 0 9 - b))
def cP_used (A : zSg) (g : Int32) : zRs := if g < 0 then .inr eIX else if g < 4 then .inl (A, A 9 (ix g)) else .inr eIX
def cP_lk (A : zSg) (q v : Int32) : zRs := match cR_lock q with
  | some E => .inr E
  | none => .inl (A, v)
