/-! The world of this claim: every address from b on is ours. A cell's kind: tag, length, the references that it holds; its ints in σ, its longs in τ. -/
abbrev zKd : Type := Nat × Nat × (Nat → Option Nat)
abbrev zLy : Type := Nat → zKd
abbrev zSg : Type := Nat → Nat → Int32
abbrev zTu : Type := Nat → Nat → Int64
abbrev zGm : Type := va_G × (ClassId × ClassId × ClassId × ClassId) × Nat × (Nat × Nat × (Nat → Int32))
def zRn (c : Nat) : String := match c with
  | 0 => RX0 | 1 => RX1 | 2 => RX2 | 3 => RX3 | 4 => RX4 | 5 => RX5 | 6 => RX6 | _ => RX6
def zT (c : Nat) : u_T := match c with
  | 0 => TX0 | 1 => TX1 | 2 => TX2 | 3 => TX3 | 4 => TX4 | 5 => TX5 | 6 => TX6 | _ => TX6
def zty (c : Nat) : Nat → FieldType := match c with
  | 0 => tyX0 | 1 => tyX1 | 2 => tyX2 | 3 => tyX3 | 4 => tyX4 | 5 => tyX5 | 6 => tyX6 | _ => tyX6
def zN (c : Nat) : Nat := match c with
  | 0 => 13 | 1 => 4 | 2 => 6 | 3 => 5 | 4 => 16 | 5 => 4 | 6 => 2 | _ => 2
def zcl : List vw_C := [(RX0, TX0, 13), (RX1, TX1, 4), (RX2, TX2, 6), (RX3, TX3, 5), (RX4, TX4, 16), (RX5, TX5, 4), (RX6, TX6, 2), (RX6, TX6, 2)]
theorem zcl_at {c : Nat} (h : c < 8) : zcl[c]? = some (zRn c, zT c, zN c) := by
  match c, h with
  | 0, _ => rfl
  | 1, _ => rfl
  | 2, _ => rfl
  | 3, _ => rfl
  | 4, _ => rfl
  | 5, _ => rfl
  | 6, _ => rfl
  | 7, _ => rfl
  | n + 8, h => exact absurd h (by omega)
theorem zcl_lt {c : Nat} {q : vw_C} (h : zcl[c]? = some q) : c < 8 := (List.getElem?_eq_some_iff.mp h).1
theorem zty_ok {c : Nat} (h : c < 8) : ∀ k, k < zN c → parseFieldDescriptor (zT c k).2.2.1 = some (zty c k) := by
  match c, h with
  | 0, _ => exact tyX0_ok
  | 1, _ => exact tyX1_ok
  | 2, _ => exact tyX2_ok
  | 3, _ => exact tyX3_ok
  | 4, _ => exact tyX4_ok
  | 5, _ => exact tyX5_ok
  | 6, _ => exact tyX6_ok
  | 7, _ => exact tyX6_ok
  | n + 8, h => exact absurd h (by omega)
theorem znm_ok {c : Nat} (h : c < 8) : ∀ a, a < zN c → ∀ b, b < zN c → a ≠ b → (zT c a).2.1 ≠ (zT c b).2.1 := by
  match c, h with
  | 0, _ => exact nmX0
  | 1, _ => exact nmX1
  | 2, _ => exact nmX2
  | 3, _ => exact nmX3
  | 4, _ => exact nmX4
  | 5, _ => exact nmX5
  | 6, _ => exact nmX6
  | 7, _ => exact nmX6
  | n + 8, h => exact absurd h (by omega)
theorem zy_all {c : Nat} (h : c < 8) : ∀ w ∈ u_ws (zRn c) (zT c) (zN c), w ∈ lw_tbl := by
  match c, h with
  | 0, _ => exact zy_X0
  | 1, _ => exact zy_X1
  | 2, _ => exact zy_X2
  | 3, _ => exact zy_X3
  | 4, _ => exact zy_X4
  | 5, _ => exact zy_X5
  | 6, _ => exact zy_X6
  | 7, _ => exact zy_X6
  | n + 8, h => exact absurd h (by omega)
/-- what a field of a type shows -/
def zfv (ty : FieldType) (x : Int32) (y : Int64) (r : Option Nat) : Value := match ty with
  | .int => .int x
  | .long => .long y
  | _ => va_rf r
def zfs (c : Nat) (x : Nat → Int32) (y : Nat → Int64) (r : Nat → Option Nat) : List Value := (List.range (zN c)).map (fun k => zfv (zty c k) (x k) (y k) (r k))
def zcell (G : zGm) (kd : zKd) (x : Nat → Int32) (y : Nat → Int64) : Option va_E := match kd.1 with
  | 0 => none
  | 1 => some (.inl (G.2.1.1, kd.2.1, .inl x))
  | 2 => some (.inl (G.2.1.2.1, kd.2.1, .inr (.inl y)))
  | 3 => some (.inl (G.2.1.2.2.1, kd.2.1, .inr (.inr (.inr (.inr kd.2.2)))))
  | 4 => some (.inl (G.2.1.2.2.2, kd.2.1, .inr (.inr (.inr (.inr kd.2.2)))))
  | c + 5 => some (.inr (c, zfs c x y kd.2.2))
def zR (G : zGm) (S : Nat → Prop) (ly : zLy) (τ : zTu) (σ : zSg) (H : Heap) : Prop :=
  S H.size ∧ ∀ (a : Nat) (e : va_E), zcell G (ly a) (σ a) (τ a) = some e → G.2.2.1 ≤ a ∧ va_at G.1 zcl (a, e) H
def ztys (G : zGm) : List (ClassId × FieldType) := [(G.2.1.1, .int), (G.2.1.2.1, .int), (G.2.1.2.2.1, .array .int), (G.2.1.2.2.2, .object RX4)]
def zA (G : zGm) : Nat → Prop := fun q => G.2.2.1 ≤ q
/-- the constant texts of the class -/
def zStr (k : Nat) : String := match k with
  | 301 => "no such task" | 290 => "an argument is out of its range" | 299 => "no such processor" | 51 => "no such group" | 295 => "no such lock" | 297 => "no such event" | 68 => "no room for another task" | _ => "the task is not fit for this"
def zStrs : List Nat := [301, 290, 299, 51, 295, 297, 68, 293]
def zokw : Cond → Bool
  | .declares _ => true
  | .castable _ _ => true
  | .methodLinkNest _ _ _ _ => true
  | _ => false
theorem zokw_same {w : Cond} (h : zokw w = true) {u U : State} (hv : u.vm = U.vm) (hw : va_Nw w u) : va_Nw w U := by
  cases w <;> first | exact va_Nw.same rfl hv hw | cases h
theorem zokw_warm {w : Cond} (h : zokw w = true) {s U : State} (hW : s.WarmedH U.vm) (hw : va_Nw w s) : va_Nw w U := by
  cases w <;> first | exact va_Nw.warmD hW hw | exact va_Nw.warmC hW hw | exact va_Nw.warmM hW hw | cases h
theorem zokw_use {w : Cond} (h : zokw w = true) {A : Array Value} {U : State} (hw : va_Nw w U) : w.before A U = true := by
  cases w <;> first | exact va_Nw.use rfl hw | cases h
theorem zokw_of {w : Cond} (h : zokw w = true) {A : Array Value} {U : State} (hw : w.before A U = true) : va_Nw w U := by
  cases w <;> first | exact va_Nw.of rfl hw | cases h
def zncs : List (String × String) := [("java/lang/IllegalArgumentException", "java/lang/IllegalStateException"), ("java/lang/IndexOutOfBoundsException", "java/lang/IllegalStateException")]
def zOth (U : State) : Prop := (∀ w ∈ lw_tbl, zokw w = true → va_Nw w U) ∧ va_AO RX4 U ∧ (Cond.arrayOver (.array .int)).before #[] U = true ∧ ∀ q ∈ zncs, va_Nc q.1 q.2 U
theorem zOth_warm {s U : State} (hW : s.WarmedH U.vm) (h : zOth s) : zOth U :=
  ⟨fun w hw hk => zokw_warm hk hW (h.1 w hw hk), va_AO.moved hW.alike h.2.1, arrayOver_alikeB hW.alike h.2.2.1, fun q hq => va_Nc.moved hW.alike (h.2.2.2 q hq)⟩
theorem zOth_same {u U : State} (hv : U.vm = u.vm) (h : zOth u) : zOth U := by
  have ha : u.vm.Alike U.vm := by rw [hv]; exact Vm.Alike.refl _
  exact ⟨fun w hw hk => zokw_same hk hv.symm (h.1 w hw hk), va_AO.moved ha h.2.1, arrayOver_alikeB ha h.2.2.1, fun q hq => va_Nc.moved ha (h.2.2.2 q hq)⟩
/-- what is known of the tables, of the script, of what a throw wants -/
def zK (G : zGm) (U : State) : Prop := va_K G.1 zcl (ztys G) U ∧ G.2.2.1 ≤ U.heap.size ∧ (va_X G.2.2.2.1 G.2.2.2.2.1 G.2.2.2.2.2 U U.heap ∧ G.2.2.2.1 < G.2.2.1) ∧
  vx_Zq Bundle.tN "UNASSIGNED_STACK" Bundle.steD (zA G) U U.heap ∧ vx_Zq Bundle.tN "SUPPRESSED_SENTINEL" Bundle.listD (zA G) U U.heap ∧ (∀ k ∈ zStrs, ∃ sa : Nat, vk_R RX6 k (zStr k) sa U) ∧ zOth U
theorem zK_same {G : zGm} {u U : State} (hv : U.vm = u.vm) (hh : U.heap = u.heap) (h : zK G u) : zK G U := by
  obtain ⟨h1, h2, ⟨h3, h4⟩, h5, h6, h7, h8⟩ := h
  have ha : u.vm.Alike U.vm := by rw [hv]; exact Vm.Alike.refl _
  refine ⟨va_K.moved ha h1, by rw [hh]; exact h2, ⟨by rw [hh]; exact va_X.moved ha h3, h4⟩, by rw [hh]; exact vx_Zq.moved ha h5, by rw [hh]; exact vx_Zq.moved ha h6, fun k hk => ?_, zOth_same hv h8⟩
  obtain ⟨sa, h⟩ := h7 k hk
  exact ⟨sa, vk_R.same hv h⟩
theorem zK_warm {G : zGm} {s U : State} (hW : s.WarmedH U.vm) {locs : List Loc} (hS : va_S (zA G) s.heap U.heap locs) (h : zK G s) : zK G U := by
  obtain ⟨h1, h2, ⟨h3, h4⟩, h5, h6, h7, h8⟩ := h
  have ha : s.vm.Alike U.vm := hW.alike
  have hk : ∀ a : Nat, a < s.heap.size → ¬ zA G a → U.heap[a]? = s.heap[a]? := hS.2.1
  refine ⟨va_K.moved ha h1, Nat.le_trans h2 hS.1, ⟨va_X.moved ha (va_X.kept h3 (hk _ ?_ ?_)), h4⟩, vx_Zq.moved ha (vx_Zq.kept h5 hk), vx_Zq.moved ha (vx_Zq.kept h6 hk), fun k hk => ?_, zOth_warm hW h8⟩
  · exact Nat.lt_of_lt_of_le h4 h2
  · exact Nat.not_le.mpr h4
  · obtain ⟨sa, h⟩ := h7 k hk
    exact ⟨sa, vk_R.warm hW h⟩
theorem zR_lt {G : zGm} {S : Nat → Prop} {ly : zLy} {τ : zTu} {σ : zSg} {H : Heap} (h : zR G S ly τ σ H) {a : Nat} {e : va_E} (he : zcell G (ly a) (σ a) (τ a) = some e) : a < H.size := (h.2 a e he).2.lt
theorem zR_S {G : zGm} {S S' : Nat → Prop} {ly : zLy} {τ : zTu} {σ : zSg} {H : Heap} (h : zR G S ly τ σ H) (hS : ∀ z, S z → S' z) : zR G S' ly τ σ H := ⟨hS _ h.1, h.2⟩
/-- fewer cells, or the same ones, are known -/
theorem zR_to {G : zGm} {S : Nat → Prop} {ly ly' : zLy} {τ τ' : zTu} {σ σ' : zSg} {H : Heap} (h : zR G S ly τ σ H) (hc : ∀ a, (ly' a).1 = 0 ∨ (ly' a = ly a ∧ σ' a = σ a ∧ τ' a = τ a)) : zR G S ly' τ' σ' H := by
  refine ⟨h.1, fun a e he => ?_⟩
  rcases hc a with h0 | ⟨h1, h2, h3⟩
  · simp [zcell, h0] at he
  · rw [h1, h2, h3] at he
    exact h.2 a e he
theorem zR_set {G : zGm} {S : Nat → Prop} {ly ly' : zLy} {τ τ' : zTu} {σ σ' : zSg} {H H1 : Heap} (h : zR G S ly τ σ H) {a : Nat} {e0 : va_E} (h0 : zcell G (ly a) (σ a) (τ a) = some e0) {e1 : va_E} (h1 : zcell G (ly' a) (σ' a) (τ' a) = some e1) (hz : H1.size = H.size) (ha : va_at G.1 zcl (a, e1) H1) (oq : ∀ q : Nat, q ≠ a → H1[q]? = H[q]?)
    (hc : ∀ x, x ≠ a → ly' x = ly x ∧ σ' x = σ x ∧ τ' x = τ x) : zR G S ly' τ' σ' H1 := by
  refine ⟨by rw [hz]; exact h.1, fun x e he => ?_⟩
  by_cases hx : x = a
  · subst hx
    rw [h1] at he
    cases he
    exact ⟨(h.2 _ _ h0).1, ha⟩
  · obtain ⟨g1, g2, g3⟩ := hc x hx
    rw [g1, g2, g3] at he
    exact ⟨(h.2 x e he).1, (h.2 x e he).2.kept (oq x hx)⟩
theorem zR_push {G : zGm} {S : Nat → Prop} {ly ly' : zLy} {τ τ' : zTu} {σ σ' : zSg} {H H1 : Heap} (h : zR G S ly τ σ H) (hb : G.2.2.1 ≤ H.size) {e1 : va_E} (h1 : zcell G (ly' H.size) (σ' H.size) (τ' H.size) = some e1) (hz : H1.size = H.size + 1) (ha : va_at G.1 zcl (H.size, e1) H1) (oq : ∀ q : Nat, q < H.size → H1[q]? = H[q]?)
    (hc : ∀ x, x ≠ H.size → ly' x = ly x ∧ σ' x = σ x ∧ τ' x = τ x) : zR G (fun z => z = H.size + 1) ly' τ' σ' H1 := by
  refine ⟨hz, fun x e he => ?_⟩
  by_cases hx : x = H.size
  · subst hx
    rw [h1] at he
    cases he
    exact ⟨hb, ha⟩
  · obtain ⟨g1, g2, g3⟩ := hc x hx
    rw [g1, g2, g3] at he
    exact ⟨(h.2 x e he).1, (h.2 x e he).2.kept (oq x ((h.2 x e he).2.lt))⟩
/-- a method's frame, its start, where it is going -/
abbrev zCx : Type := Program × Launch × Env × Room × State × MethodId × Array Value × List Frame × Method × Code × (State → Prop)
def zas (ls : List (Option Value)) : List (Nat × Value) := ls.zipIdx.filterMap (fun q => q.1.map (fun v => (q.2, v)))
theorem zas_mem {ls : List (Option Value)} {i : Nat} {v : Value} : (i, v) ∈ zas ls ↔ ls[i]? = some (some v) := by
  unfold zas
  rw [List.mem_filterMap]
  constructor
  · rintro ⟨⟨o, j⟩, hm, hq⟩
    have h1 := (List.mem_zipIdx_iff_getElem? (x := (o, j)) (l := ls)).mp hm
    cases o with
    | none => simp at hq
    | some w =>
      simp at hq
      obtain ⟨rfl, rfl⟩ := hq
      exact h1
  · intro h
    exact ⟨(some v, i), (List.mem_zipIdx_iff_getElem? (x := (some v, i)) (l := ls)).mpr h, rfl⟩
def zLo (la : Array Slot) (nL : Nat) (ls : List (Option Value)) : Prop := lv_has la nL (zas ls)
theorem zLo_at {la : Array Slot} {nL : Nat} {ls : List (Option Value)} (h : zLo la nL ls) {i : Nat} {v : Value} (hi : ls[i]? = some (some v)) : la[i]? = some (.val v) := h.2.2 (i, v) (zas_mem.mpr hi)
theorem zLo_sub {la : Array Slot} {nL : Nat} {ls ls' : List (Option Value)} (h : zLo la nL ls) (hs : ∀ (i : Nat) (v : Value), ls'[i]? = some (some v) → ls[i]? = some (some v)) : zLo la nL ls' :=
  ⟨h.1, h.2.1, fun q hq => h.2.2 q (zas_mem.mpr (hs q.1 q.2 (zas_mem.mp hq)))⟩
def zc1 (o : Option Value) : Bool := match o with
  | none => true
  | some v => v.category == 1
theorem zLo_set1 {la : Array Slot} {nL : Nat} {ls : List (Option Value)} {i : Nat} {v : Value} (h : lv_has la nL ((i, v) :: (zas ls).filter (fun q => !(q.1 == i) && !(q.1 + 1 == i && q.2.category == 2)))) (hp : ∀ j, j + 1 = i → zc1 (ls.getD j none) = true) : zLo la nL (ls.set i (some v)) := by
  refine ⟨h.1, h.2.1, fun q hq => ?_⟩
  obtain ⟨j, w⟩ := q
  have h1 := zas_mem.mp hq
  by_cases hj : i = j
  · subst hj
    have hl : i < ls.length := by
      have := (List.getElem?_eq_some_iff.mp h1).1
      simpa using this
    rw [List.getElem?_set_self hl] at h1
    cases h1
    exact h.2.2 (i, v) List.mem_cons_self
  · rw [List.getElem?_set_ne hj] at h1
    refine h.2.2 (j, w) (List.mem_cons_of_mem _ (List.mem_filter.mpr ⟨zas_mem.mpr h1, ?_⟩))
    have h2 : (j == i) = false := by simpa using fun e => hj e.symm
    simp only [h2, Bool.not_false, Bool.true_and, Bool.not_eq_true', Bool.and_eq_false_iff]
    by_cases hji : j + 1 = i
    · right
      have := hp j hji
      rw [List.getD_eq_getElem?_getD, h1] at this
      simp only [Option.getD_some, zc1, beq_iff_eq] at this
      simp [this]
    · left
      simpa using hji
theorem zLo_set2 {la : Array Slot} {nL : Nat} {ls : List (Option Value)} {i : Nat} {v : Value} (h : lv_has la nL ((i, v) :: (zas ls).filter (fun q => !(q.1 == i) && (!(q.1 == i + 1) && !(q.1 + 1 == i && q.2.category == 2))))) (hp : ∀ j, j + 1 = i → zc1 (ls.getD j none) = true) : zLo la nL ((ls.set i (some v)).set (i + 1) none) := by
  refine ⟨h.1, h.2.1, fun q hq => ?_⟩
  obtain ⟨j, w⟩ := q
  have h1 := zas_mem.mp hq
  by_cases hj1 : i + 1 = j
  · subst hj1
    by_cases hl : i + 1 < (ls.set i (some v)).length
    · rw [List.getElem?_set_self hl] at h1
      cases h1
    · rw [List.getElem?_eq_none (by rw [List.length_set]; omega)] at h1
      cases h1
  · rw [List.getElem?_set_ne hj1] at h1
    by_cases hj : i = j
    · subst hj
      have hl : i < ls.length := by
        have := (List.getElem?_eq_some_iff.mp h1).1
        simpa using this
      rw [List.getElem?_set_self hl] at h1
      cases h1
      exact h.2.2 (i, v) List.mem_cons_self
    · rw [List.getElem?_set_ne hj] at h1
      refine h.2.2 (j, w) (List.mem_cons_of_mem _ (List.mem_filter.mpr ⟨zas_mem.mpr h1, ?_⟩))
      have h2 : (j == i) = false := by simpa using fun e => hj e.symm
      have h3 : (j == i + 1) = false := by simpa using fun e => hj1 e.symm
      simp only [h2, h3, Bool.not_false, Bool.true_and, Bool.not_eq_true', Bool.and_eq_false_iff]
      by_cases hji : j + 1 = i
      · right
        have := hp j hji
        rw [List.getD_eq_getElem?_getD, h1] at this
        simp only [Option.getD_some, zc1, beq_iff_eq] at this
        simp [this]
      · left
        simpa using hji
/-- THE WALK: at pc, with locals ls and stack st, in the world (ly, τ, σ), some size of the heap that S allows; bc cells and bs slots are still to be had -/
def zV (G : zGm) (X : zCx) (nL bc bs : Nat) (S : Nat → Prop) (ly : zLy) (τ : zTu) (σ : zSg) (pc : Nat) (ls : List (Option Value)) (st : List Value) : Prop := match X with
  | (p, l, e, R, s, m, args, below, meth, c, Q) => ∀ (H : Heap) (locs : List Loc) (cells slots : Nat) (la : Array Slot), zR G S ly τ σ H → va_S (zA G) s.heap H locs → cells + bc ≤ R.cells → slots + bs ≤ R.slots → zLo la nL ls →
    W p l e R s m args below meth c H locs cells slots Q (F0 m pc la st)
/-- the same with an exception of the class E under way -/
def zVX (G : zGm) (X : zCx) (nL bc bs : Nat) (S : Nat → Prop) (ly : zLy) (τ : zTu) (σ : zSg) (pc : Nat) (ls : List (Option Value)) (st : List Value) (E : String) : Prop := match X with
  | (p, l, e, R, s, m, args, below, meth, c, Q) => ∀ (H : Heap) (locs : List Loc) (cells slots : Nat) (la : Array Slot) (q : Nat) (ce : Cell), zR G S ly τ σ H → va_S (zA G) s.heap H locs → cells + bc ≤ R.cells → slots + bs ≤ R.slots → zLo la nL ls →
    H[q]? = some ce → ce.vm = .none → s.vm.findClass E = some ce.cls → vx_W p l e R s m args below meth c H locs cells slots Q (F0 m pc la st) q
/-- what holds of a frame: the machine, the code, the words, what is known -/
def zOk (G : zGm) (X : zCx) (own : String) (cc : ByteArray) (nL : Nat) : Prop := match X with
  | (p, l, e, R, s, m, args, below, meth, c, Q) => p.tables.exec = Jvm.exec ∧ c.code = cc ∧ c.maxLocals = nL ∧ s.vm.findClass own = some m.cls ∧ (∀ w ∈ lw_tbl, goodWord w = true → w.before args s = true) ∧ meth.locks = false ∧ zK G s ∧ l.stackTraces = false
theorem zV_S {G : zGm} {X : zCx} {nL bc bs : Nat} {S S' : Nat → Prop} {ly : zLy} {τ : zTu} {σ : zSg} {pc : Nat} {ls : List (Option Value)} {st : List Value} (hS : ∀ z, S z → S' z) (k : zV G X nL bc bs S' ly τ σ pc ls st) : zV G X nL bc bs S ly τ σ pc ls st := by
  obtain ⟨p, l, e, R, s, m, args, below, meth, c, Q⟩ := X
  exact fun H locs cells slots la hR => k H locs cells slots la (zR_S hR hS)
theorem zV_to {G : zGm} {X : zCx} {nL bc bs : Nat} {S : Nat → Prop} {ly ly' : zLy} {τ τ' : zTu} {σ σ' : zSg} {pc : Nat} {ls : List (Option Value)} {st : List Value} (hc : ∀ a, (ly' a).1 = 0 ∨ (ly' a = ly a ∧ σ' a = σ a ∧ τ' a = τ a)) (k : zV G X nL bc bs S ly' τ' σ' pc ls st) : zV G X nL bc bs S ly τ σ pc ls st := by
  obtain ⟨p, l, e, R, s, m, args, below, meth, c, Q⟩ := X
  exact fun H locs cells slots la hR => k H locs cells slots la (zR_to hR hc)
theorem zV_ls {G : zGm} {X : zCx} {nL bc bs : Nat} {S : Nat → Prop} {ly : zLy} {τ : zTu} {σ : zSg} {pc : Nat} {ls ls' : List (Option Value)} {st : List Value} (hs : ∀ (i : Nat) (v : Value), ls'[i]? = some (some v) → ls[i]? = some (some v)) (k : zV G X nL bc bs S ly τ σ pc ls' st) : zV G X nL bc bs S ly τ σ pc ls st := by
  obtain ⟨p, l, e, R, s, m, args, below, meth, c, Q⟩ := X
  exact fun H locs cells slots la hR hS h1 h2 hl => k H locs cells slots la hR hS h1 h2 (zLo_sub hl hs)
theorem zV_b {G : zGm} {X : zCx} {nL bc bs bc' bs' : Nat} {S : Nat → Prop} {ly : zLy} {τ : zTu} {σ : zSg} {pc : Nat} {ls : List (Option Value)} {st : List Value} (h1 : bc' ≤ bc) (h2 : bs' ≤ bs) (k : zV G X nL bc' bs' S ly τ σ pc ls st) : zV G X nL bc bs S ly τ σ pc ls st := by
  obtain ⟨p, l, e, R, s, m, args, below, meth, c, Q⟩ := X
  exact fun H locs cells slots la hR hS g1 g2 hl => k H locs cells slots la hR hS (by omega) (by omega) hl
