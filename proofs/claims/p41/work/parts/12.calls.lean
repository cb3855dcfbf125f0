/-! Contracts: what a call comes to, returned or thrown -/
abbrev zRes : Type := Option Value ⊕ String
abbrev zPost : Type := zRes → Nat → zLy → zTu → zSg → Prop
abbrev zY : Type := MethodName × ByteArray × Nat × Option FieldType
def zWT : List Cond := lw_tbl.filter goodWord
theorem zWT_in {w : Cond} (h : w ∈ lw_tbl) (g : goodWord w = true) : w ∈ zWT := List.mem_filter.mpr ⟨h, g⟩
def zws (y : zY) : List Cond := Cond.code y.1 y.2.1 y.2.2.1 y.2.2.2 :: zWT
def zrm (d bc bs : Nat) : Room := { frames := d, cells := bc, slots := bs, locals := 36 * d }
def zPc (G : zGm) (S : Nat → Prop) (ly : zLy) (τ : zTu) (σ : zSg) (as : List Value) : Array Value → State → Prop := fun v U => v = as.toArray ∧ zK G U ∧ zR G S ly τ σ U.heap
def zQc (G : zGm) (post : zPost) : Array Value → State → Outcome → State → Prop := fun _ st o t => ∃ (v : Option Value) (z : Nat) (ly' : zLy) (τ' : zTu) (σ' : zSg), o = .returned v ∧ post (.inl v) z ly' τ' σ' ∧ zR G (fun x => x = z) ly' τ' σ' t.heap ∧ va_F (zA G) st t
def zXC (G : zGm) (post : zPost) : String → State → State → Prop := fun E st t => ∃ (z : Nat) (ly' : zLy) (τ' : zTu) (σ' : zSg), post (.inr E) z ly' τ' σ' ∧ zR G (fun x => x = z) ly' τ' σ' t.heap ∧ va_F (zA G) st t
def zEv (l : Launch) (G : zGm) (d bc bs : Nat) (y : zY) (as : List Value) (S : Nat → Prop) (ly : zLy) (τ : zTu) (σ : zSg) (post : zPost) : Prop :=
  vx_Met l y.1 (zws y) (zrm d bc bs) (zPc G S ly τ σ as) (zQc G post) (zXC G post) bc bs (zA G)
/-- what a frame is bound for -/
def zEnd (G : zGm) (X : zCx) (post : zPost) (ret : Option FieldType) : Prop := match X with
  | (p, l, e, R, s, m, args, below, meth, c, Q) => meth.sig.returnType = ret ∧ Q = vx_MQ below (zQc G post) (zXC G post) args s R.cells R.slots (zA G)
def zNH (X : zCx) : Prop := match X with
  | (p, l, e, R, s, m, args, below, meth, c, Q) => ∀ x ∈ c.exceptionTable.toList, False
/-- the room of a frame -/
def zRm (X : zCx) (d : Nat) : Prop := match X with
  | (p, l, e, R, s, m, args, below, meth, c, Q) => d ≤ R.frames ∧ 36 * d ≤ R.locals
def zLn (X : zCx) (l : Launch) : Prop := X.2.1 = l
def zNm (X : zCx) (nm : String) : Prop := match X with
  | (p, l, e, R, s, m, args, below, meth, c, Q) => meth.name = nm
theorem zfilter {ws : List Cond} {args : Array Value} {s : State} (h : ∀ w ∈ zWT, w.before args s = true) : ∀ w ∈ lw_tbl, goodWord w = true → w.before args s = true := fun w hw hg => h w (zWT_in hw hg)
theorem zlas (as : List Value) {nL : Nat} (h : (lg_sl as).length ≤ nL) : zLo ((lg_sl as ++ List.replicate (nL - (lg_sl as).length) Slot.unset).toArray) nL [] := by
  have h1 := lv_entry as h
  exact ⟨h1.1, h1.2.1, fun q hq => by simp [zas] at hq⟩
theorem zlas2 (as : List Value) {nL : Nat} {ls : List (Option Value)} (h : (lg_sl as).length ≤ nL) (hs : zas ls = lv_args 0 as) : zLo ((lg_sl as ++ List.replicate (nL - (lg_sl as).length) Slot.unset).toArray) nL ls := by
  unfold zLo
  rw [hs]
  exact lv_entry as h
/-- a body walked gives the contract -/
theorem zEv_of {l : Launch} {G : zGm} {d bc bs : Nat} {y : MethodName} {cc : ByteArray} {nL : Nat} {ret : Option FieldType} {as : List Value} {S : Nat → Prop} {ly : zLy} {τ : zTu} {σ : zSg} {post : zPost} {ls : List (Option Value)} (hl : l.stackTraces = false)
    (hy : plainName y.cls = true) (hn : (lg_sl as).length ≤ nL) (hs : zas ls = lv_args 0 as)
    (body : ∀ X : zCx, zOk G X y.cls cc nL → zEnd G X post ret → zNH X → zRm X d → zLn X l → zNm X y.name → zV G X nL bc bs S ly τ σ 0 ls []) : zEv l G d bc bs (y, cc, nL, ret) as S ly τ σ post := by
  refine vx_ofW (cc := cc) (maxL := nL) (ret := ret) hy rfl ?_
  intro p e s m args below meth c s₁ B hml ht hv
  obtain ⟨rfl, hK, hR⟩ := hv
  have hts := atoms_spec (ws := zws (y, cc, nL, ret)) B.pre
  have hts2 : ∀ w ∈ lw_tbl, goodWord w = true → w.before as.toArray s = true := fun w hw hg => hts w (List.mem_cons_of_mem _ (zWT_in hw hg))
  have hown : s.vm.findClass y.cls = some m.cls := findClass_of_methodNamed B.named
  have hnm := (name_of_methodNamed B.named B.method).1
  rw [lg_entry_eq]
  exact body (p, l, e, (headSpec (zws (y, cc, nL, ret)) (zrm d bc bs)).room, s, m, as.toArray, below, meth, c, _) ⟨B.exec, B.bytes, hml, hown, hts2, B.notSynchronized, hK, hl⟩ ⟨B.returns, rfl⟩ ht ⟨Nat.le_refl _, Nat.le_refl _⟩ rfl hnm
    s.heap [] 0 0 _ hR va_S.rf (by show 0 + bc ≤ bc; omega) (by show 0 + bs ≤ bs; omega) (zlas2 as hn hs)
section ZC
variable {G : zGm} {X : zCx} {own : String} {cc : ByteArray} {nL bc bs : Nat} {S : Nat → Prop} {ly : zLy} {τ : zTu} {σ : zSg} {pc : Nat} {ls : List (Option Value)} {st : List Value} {post : zPost}
theorem zQ_of {s : State} {args : Array Value} {H : Heap} {locs : List Loc} {v : Option Value} (hR : zR G S ly τ σ H) (hS : va_S (zA G) s.heap H locs) (hp : ∀ z, S z → post (.inl v) z ly τ σ) : ∀ t : State, t.heap = H → s.WarmedH t.vm → zQc G post args s (.returned v) t :=
  fun t ht _ => ⟨v, H.size, ly, τ, σ, rfl, hp _ hR.1, by rw [ht]; exact ⟨rfl, hR.2⟩, hS.F ht⟩
theorem zr_ireturn (hO : zOk G X own cc nL) (hE : zEnd G X post (some .int)) {v : Int32} (hdg : decode cc pc = .ok (.ireturn, 1)) (hp : ∀ z, S z → post (.inl (some (.int v))) z ly τ σ) : zV G X nL bc bs S ly τ σ pc ls [.int v] := by
  obtain ⟨p, l, e, R, s, m, args, below, meth, c0, Q⟩ := X
  obtain ⟨hx, hb, hml, hown, hts, hlk, hK, htr⟩ := hO
  obtain ⟨hr, rfl⟩ := hE
  intro H locs cells slots la hR hS h1 h2 hl
  refine W.widen (k := R.cells) (n := R.slots) (by omega) (by omega) (vx_ret ?_)
  exact W.iret hx hb hr (zQ_of hR hS hp) (fun q hq => hS.2.2 q hq) hdg
theorem zr_zreturn (hO : zOk G X own cc nL) (hE : zEnd G X post (some .boolean)) {v : Int32} (hn : narrow .boolean (.int v) = .int v) (hdg : decode cc pc = .ok (.ireturn, 1)) (hp : ∀ z, S z → post (.inl (some (.int v))) z ly τ σ) : zV G X nL bc bs S ly τ σ pc ls [.int v] := by
  obtain ⟨p, l, e, R, s, m, args, below, meth, c0, Q⟩ := X
  obtain ⟨hx, hb, hml, hown, hts, hlk, hK, htr⟩ := hO
  obtain ⟨hr, rfl⟩ := hE
  intro H locs cells slots la hR hS h1 h2 hl
  refine W.widen (k := R.cells) (n := R.slots) (by omega) (by omega) (vx_ret ?_)
  exact W.zret hx hb hr hn (zQ_of hR hS hp) (fun q hq => hS.2.2 q hq) hdg
theorem zr_lreturn (hO : zOk G X own cc nL) (hE : zEnd G X post (some .long)) {v : Int64} (hdg : decode cc pc = .ok (.lreturn, 1)) (hp : ∀ z, S z → post (.inl (some (.long v))) z ly τ σ) : zV G X nL bc bs S ly τ σ pc ls [.long v] := by
  obtain ⟨p, l, e, R, s, m, args, below, meth, c0, Q⟩ := X
  obtain ⟨hx, hb, hml, hown, hts, hlk, hK, htr⟩ := hO
  obtain ⟨hr, rfl⟩ := hE
  intro H locs cells slots la hR hS h1 h2 hl
  refine W.widen (k := R.cells) (n := R.slots) (by omega) (by omega) (vx_ret ?_)
  exact W.lret hx hb hr (zQ_of hR hS hp) (fun q hq => hS.2.2 q hq) hdg
theorem zr_dreturn (hO : zOk G X own cc nL) (hE : zEnd G X post (some .double)) {v : UInt64} (hdg : decode cc pc = .ok (.dreturn, 1)) (hp : ∀ z, S z → post (.inl (some (.double v))) z ly τ σ) : zV G X nL bc bs S ly τ σ pc ls [.double v] := by
  obtain ⟨p, l, e, R, s, m, args, below, meth, c0, Q⟩ := X
  obtain ⟨hx, hb, hml, hown, hts, hlk, hK, htr⟩ := hO
  obtain ⟨hr, rfl⟩ := hE
  intro H locs cells slots la hR hS h1 h2 hl
  refine W.widen (k := R.cells) (n := R.slots) (by omega) (by omega) (vx_ret ?_)
  exact W.dret hx hb hr (zQ_of hR hS hp) (fun q hq => hS.2.2 q hq) hdg
theorem zr_return (hO : zOk G X own cc nL) (hE : zEnd G X post none) (hdg : decode cc pc = .ok (.return_, 1)) (hp : ∀ z, S z → post (.inl none) z ly τ σ) : zV G X nL bc bs S ly τ σ pc ls [] := by
  obtain ⟨p, l, e, R, s, m, args, below, meth, c0, Q⟩ := X
  obtain ⟨hx, hb, hml, hown, hts, hlk, hK, htr⟩ := hO
  obtain ⟨hr, rfl⟩ := hE
  intro H locs cells slots la hR hS h1 h2 hl
  refine W.widen (k := R.cells) (n := R.slots) (by omega) (by omega) (vx_ret ?_)
  exact W.vret hx hb hr (zQ_of hR hS hp) (fun q hq => hS.2.2 q hq) hdg
theorem zr_areturn (hO : zOk G X own cc nL) {C : String} (hE : zEnd G X post (some (.object C))) {a : Nat} (hdg : decode cc pc = .ok (.areturn, 1)) (hp : ∀ z, S z → post (.inl (some (.ref a))) z ly τ σ) : zV G X nL bc bs S ly τ σ pc ls [.ref a] := by
  obtain ⟨p, l, e, R, s, m, args, below, meth, c0, Q⟩ := X
  obtain ⟨hx, hb, hml, hown, hts, hlk, hK, htr⟩ := hO
  obtain ⟨hr, rfl⟩ := hE
  intro H locs cells slots la hR hS h1 h2 hl
  refine W.widen (k := R.cells) (n := R.slots) (by omega) (by omega) (vx_ret ?_)
  exact W.aret hx hb hr (Or.inl ⟨_, rfl⟩) (Or.inr ⟨_, rfl⟩) (zQ_of hR hS hp) (fun q hq => hS.2.2 q hq) hdg
theorem zr_areturnN (hO : zOk G X own cc nL) {C : String} (hE : zEnd G X post (some (.object C))) (hdg : decode cc pc = .ok (.areturn, 1)) (hp : ∀ z, S z → post (.inl (some .null)) z ly τ σ) : zV G X nL bc bs S ly τ σ pc ls [.null] := by
  obtain ⟨p, l, e, R, s, m, args, below, meth, c0, Q⟩ := X
  obtain ⟨hx, hb, hml, hown, hts, hlk, hK, htr⟩ := hO
  obtain ⟨hr, rfl⟩ := hE
  intro H locs cells slots la hR hS h1 h2 hl
  refine W.widen (k := R.cells) (n := R.slots) (by omega) (by omega) (vx_ret ?_)
  exact W.aret hx hb hr (Or.inl ⟨_, rfl⟩) (Or.inl rfl) (zQ_of hR hS hp) (fun q hq => hS.2.2 q hq) hdg
theorem zX_out (hO : zOk G X own cc nL) {ret : Option FieldType} (hE : zEnd G X post ret) (hN : zNH X) {E : String} (hp : ∀ z, S z → post (.inr E) z ly τ σ) : zVX G X nL bc bs S ly τ σ pc ls st E := by
  obtain ⟨p, l, e, R, s, m, args, below, meth, c0, Q⟩ := X
  obtain ⟨hx, hb, hml, hown, hts, hlk, hK, htr⟩ := hO
  obtain ⟨hr, rfl⟩ := hE
  intro H locs cells slots la q ce hR hS h1 h2 hl hce hcv hcl
  exact vx_out (fun x h => absurd (hN x h) id) hlk hce hcv hcl (fun t ht _ => ⟨H.size, ly, τ, σ, hp _ hR.1, by rw [ht]; exact ⟨rfl, hR.2⟩, hS.F ht⟩) (fun z hz => hS.2.2 z hz) (by omega) (by omega)
/-- what is known of the callee's start -/
theorem zPc_of {s : State} {H : Heap} {locs : List Loc} {as : List Value} (hK : zK G s) (hR : zR G S ly τ σ H) (hS : va_S (zA G) s.heap H locs) : FrameBlind (zPc G S ly τ σ as) ∧ ∀ U : State, U.heap = H → s.WarmedH U.vm → zPc G S ly τ σ as as.toArray U :=
  ⟨fun a U g mk q => ⟨q.1, zK_same (u := U) rfl rfl q.2.1, q.2.2⟩, fun U hU hW => ⟨rfl, zK_warm hW (by rw [hU]; exact hS) hK, by rw [hU]; exact hR⟩⟩
theorem zgood {y : zY} (hc : Cond.code y.1 y.2.1 y.2.2.1 y.2.2.2 ∈ lw_tbl) : GoodIn zWT (zws y) := by
  intro w hw
  rcases List.mem_cons.mp hw with rfl | hw
  · exact ⟨zWT_in hc rfl, Or.inl rfl⟩
  · exact ⟨hw, good_of_word (List.mem_filter.mp hw).2⟩
def zRun (G : zGm) (X : zCx) (nL bc bs : Nat) (S : Nat → Prop) (ly : zLy) (τ : zTu) (σ : zSg) (pc : Nat) (ls : List (Option Value)) (st0 st : List Value) (bc' bs' : Nat) (as : List Value) (post' : zPost) : Prop := match X with
  | (p, l, e, R, s, m, args, below, meth, c, Q) => ∀ (H : Heap) (locs : List Loc) (cells slots : Nat) (la : Array Slot), zR G S ly τ σ H → va_S (zA G) s.heap H locs → cells + bc ≤ R.cells → slots + bs ≤ R.slots → zLo la nL ls →
    vx_Run p l e R s m args below meth c H locs cells slots bc' bs' (F0 m pc la st0) st (zQc G post' as.toArray) (zXC G post') (zA G)
/-- behind a call that was run -/
theorem z_run {bc' bs' : Nat} {as : List Value} {post' : zPost} {st0 : List Value} (hO : zOk G X own cc nL)
    (hrun : zRun G X nL bc bs S ly τ σ pc ls st0 st bc' bs' as post')
    (hbc : bc' ≤ bc) (hbs : bs' ≤ bs)
    (kx : ∀ (E : String) (z : Nat) (ly' : zLy) (τ' : zTu) (σ' : zSg), post' (.inr E) z ly' τ' σ' → zVX G X nL (bc - bc') (bs - bs') (fun x => x = z) ly' τ' σ' pc ls st E)
    (kk : ∀ (v : Option Value) (z : Nat) (ly' : zLy) (τ' : zTu) (σ' : zSg), post' (.inl v) z ly' τ' σ' → zV G X nL (bc - bc') (bs - bs') (fun x => x = z) ly' τ' σ' (pc + 3) ls (v.toList ++ st)) : zV G X nL bc bs S ly τ σ pc ls st0 := by
  obtain ⟨p, l, e, R, s, m, args, below, meth, c0, Q⟩ := X
  obtain ⟨hx, hb, hml, hown, hts, hlk, hK, htr⟩ := hO
  intro H locs cells slots la hR hS h1 h2 hl T hT Xs
  rcases hrun H locs cells slots la hR hS h1 h2 hl T hT Xs with ⟨v, st₀, t, T', L, h0, X', hL, e1, e2, ⟨v', z, ly', τ', σ', hv, hp, hz, hF⟩, stp⟩ | ⟨q, st₀, t, T', L, E, ce, h0, X', hL, e1, e2, ⟨z, ly', τ', σ', hp, hz, hF⟩, hce, hcv, hcl, stp⟩
  · cases hv
    obtain ⟨k1, k2, k3⟩ := vx_keep h0 e1 hS (fun q _ h => h) (fun q h => h) hL hF
    obtain ⟨t2, a1, b1⟩ := kk v z ly' τ' σ' hp T'.heap (locs ++ L) (cells + bc') (slots + bs') la (by rw [e1]; exact hz) k3 (by omega) (by omega) hl T' rfl X'
    exact ⟨t2, stp t2 a1, b1⟩
  · obtain ⟨k1, k2, k3⟩ := vx_keep h0 e1 hS (fun q _ h => h) (fun q h => h) hL hF
    obtain ⟨t2, a1, b1⟩ := kx E z ly' τ' σ' hp T'.heap (locs ++ L) (cells + bc') (slots + bs') la q ce (by rw [e1]; exact hz) k3 (by omega) (by omega) hl (by rw [e1]; exact hce) hcv hcl T' rfl X'
    exact ⟨t2, stp.trans a1, b1⟩

theorem z_callV {l : Launch} {D d bc' bs' index maxL : Nat} {y : MethodName} {bytes : ByteArray} {ret : Option FieldType} {post' : zPost} (hO : zOk G X own cc nL) (hRm : zRm X D) (hL : zLn X l) (hd : d + 1 ≤ D) (hmx : maxL ≤ 17) {C : String} {b c n : Nat} {rf : Nat → Option Nat} {As : List Value} (hc8 : c < 8) (hly : ly b = (c + 5, n, rf)) (hC : C = zRn c) (hyC : y.cls = C)
    (hM : zEv l G d bc' bs' (y, bytes, maxL, ret) (.ref b :: As) S ly τ σ post')
    (hw1 : Cond.methodLink own index y ∈ lw_tbl) (hw2 : Cond.instanceMethod y ∈ lw_tbl) (hw3 : Cond.selects C y y ∈ lw_tbl) (hw4 : Cond.code y bytes maxL ret ∈ lw_tbl) (hw5 : Cond.initialized C ∈ lw_tbl)
    (hdy : y.cls ≠ "java/lang/invoke/MethodHandle" ∧ y.cls ≠ "java/lang/invoke/VarHandle" ∧ (parseMethodDescriptor y.desc).map (fun d => d.parameters.length) = some As.length)
    (hcat : (st.map fun v => v.category).sum ≤ 8) (hdg : decode cc pc = .ok (.invokevirtual index, 3)) (hbc : bc' ≤ bc) (hbs : bs' ≤ bs)
    (kx : ∀ (E : String) (z : Nat) (ly' : zLy) (τ' : zTu) (σ' : zSg), post' (.inr E) z ly' τ' σ' → zVX G X nL (bc - bc') (bs - bs') (fun x => x = z) ly' τ' σ' pc ls st E)
    (kk : ∀ (v : Option Value) (z : Nat) (ly' : zLy) (τ' : zTu) (σ' : zSg), post' (.inl v) z ly' τ' σ' → zV G X nL (bc - bc') (bs - bs') (fun x => x = z) ly' τ' σ' (pc + 3) ls (v.toList ++ st)) : zV G X nL bc bs S ly τ σ pc ls (As.reverse ++ .ref b :: st) := by
  refine z_run (as := .ref b :: As) hO ?_ hbc hbs kx kk
  obtain ⟨p, l9, e, R, s, m, args, below, meth, c0, Q⟩ := X
  obtain ⟨hx, hb, hml, hown, hts, hlk, hK, htr⟩ := hO
  obtain ⟨hr1, hr2⟩ := hRm
  cases hL
  intro H locs cells slots la hR hS h1 h2 hl
  have he : zcell G (ly b) (σ b) (τ b) = some (.inr (c, zfs c (σ b) (τ b) rf)) := by rw [hly]; rfl
  have hT : ∀ w ∈ zWT, w.before args s = true := fun w hw => hts w (List.mem_filter.mp hw).1 (List.mem_filter.mp hw).2
  have hP := zPc_of (as := .ref b :: As) hK hR hS
  have hrecv := va_recv (ci := c) (q0 := 0) hK.1 (zP1 (hR.2 b _ he).2) (zcl_at hc8) rfl
  refine vx_runV (As := As) (n := As.length) (rest := st) ⟨hx, hb, hml, hown, hT⟩ hM (cwV (C := C) As.length hT ?_ rfl rfl rfl ⟨hyC, hdy⟩ ⟨by show d + 1 ≤ _; omega, by show 8 + (maxL + 11) + 36 * d ≤ _; omega⟩) ⟨hP.1, by rw [hC]; exact hrecv, hP.2⟩ rfl rfl hl.1 rfl (lv_room hcat) hdg ⟨by omega, by omega⟩
  intro w hw
  unfold wsV at hw
  rcases List.mem_append.mp hw with hw | hw
  · simp only [List.mem_cons, List.not_mem_nil, or_false] at hw
    rcases hw with rfl | rfl | rfl | rfl
    · exact ⟨zWT_in hw1 rfl, Or.inl rfl⟩
    · exact ⟨zWT_in hw2 rfl, Or.inl rfl⟩
    · exact ⟨zWT_in hw3 rfl, Or.inl rfl⟩
    · exact ⟨zWT_in hw5 rfl, Or.inl rfl⟩
  · exact zgood (y := (y, bytes, maxL, ret)) hw4 w hw
theorem z_callS {l : Launch} {D d bc' bs' index maxL : Nat} {y : MethodName} {bytes : ByteArray} {ret : Option FieldType} {post' : zPost} (hO : zOk G X own cc nL) (hRm : zRm X D) (hL : zLn X l) (hd : d + 1 ≤ D) (hmx : maxL ≤ 17) {As : List Value} (hyC : y.cls = own)
    (hM : zEv l G d bc' bs' (y, bytes, maxL, ret) As S ly τ σ post')
    (hw1 : Cond.methodLink own index y ∈ lw_tbl) (hw2 : Cond.static y ∈ lw_tbl) (hw4 : Cond.code y bytes maxL ret ∈ lw_tbl) (hw5 : Cond.initialized own ∈ lw_tbl)
    (hdy : y.cls ≠ "java/lang/invoke/MethodHandle" ∧ y.cls ≠ "java/lang/invoke/VarHandle" ∧ (parseMethodDescriptor y.desc).map (fun d => d.parameters.length) = some As.length)
    (hcat : (st.map fun v => v.category).sum ≤ 8) (hdg : decode cc pc = .ok (.invokestatic index, 3)) (hbc : bc' ≤ bc) (hbs : bs' ≤ bs)
    (kx : ∀ (E : String) (z : Nat) (ly' : zLy) (τ' : zTu) (σ' : zSg), post' (.inr E) z ly' τ' σ' → zVX G X nL (bc - bc') (bs - bs') (fun x => x = z) ly' τ' σ' pc ls st E)
    (kk : ∀ (v : Option Value) (z : Nat) (ly' : zLy) (τ' : zTu) (σ' : zSg), post' (.inl v) z ly' τ' σ' → zV G X nL (bc - bc') (bs - bs') (fun x => x = z) ly' τ' σ' (pc + 3) ls (v.toList ++ st)) : zV G X nL bc bs S ly τ σ pc ls (As.reverse ++ st) := by
  refine z_run (as := As) hO ?_ hbc hbs kx kk
  obtain ⟨p, l9, e, R, s, m, args, below, meth, c0, Q⟩ := X
  obtain ⟨hx, hb, hml, hown, hts, hlk, hK, htr⟩ := hO
  obtain ⟨hr1, hr2⟩ := hRm
  cases hL
  intro H locs cells slots la hR hS h1 h2 hl
  have hT : ∀ w ∈ zWT, w.before args s = true := fun w hw => hts w (List.mem_filter.mp hw).1 (List.mem_filter.mp hw).2
  have hP := zPc_of (as := As) hK hR hS
  refine vx_runS (As := As) (n := As.length) (rest := st) ⟨hx, hb, hml, hown, hT⟩ hM (cwS As.length hT ?_ rfl rfl rfl ⟨hyC, hdy⟩ ⟨by show d + 1 ≤ _; omega, by show 8 + (maxL + 11) + 36 * d ≤ _; omega⟩) hP rfl rfl hl.1 rfl (lv_room hcat) hdg ⟨by omega, by omega⟩
  intro w hw
  unfold wsS at hw
  rcases List.mem_append.mp hw with hw | hw
  · simp only [List.mem_cons, List.not_mem_nil, or_false] at hw
    rcases hw with rfl | rfl | rfl
    · exact ⟨zWT_in hw1 rfl, Or.inl rfl⟩
    · exact ⟨zWT_in hw2 rfl, Or.inl rfl⟩
    · exact ⟨zWT_in hw5 rfl, Or.inl rfl⟩
  · exact zgood (y := (y, bytes, maxL, ret)) hw4 w hw
end ZC
/-- a region of N cells from o on holds M -/
def zwr (σ : zSg) (o N : Nat) (M : zSg) : zSg := fun a j => if o ≤ a ∧ a < o + N then M (a - o) j else σ a j
theorem zwr_in (σ : zSg) {o N f : Nat} (M : zSg) (j : Nat) (h : f < N) : zwr σ o N M (o + f) j = M f j := by
  unfold zwr
  rw [if_pos (by omega), Nat.add_sub_cancel_left]
theorem zwr_up (σ : zSg) {o N f : Nat} (M : zSg) (j : Nat) (v : Int32) (h : f < N) : zup (zwr σ o N M) (o + f) j v = zwr σ o N (zup M f j v) := by
  funext a i
  by_cases ha : o ≤ a ∧ a < o + N
  · by_cases hf : a = o + f
    · subst hf
      simp [zup, zwr, h]
    · have h1 : a - o ≠ f := by omega
      simp [zup, zwr, hf, ha, h1]
  · have h1 : a ≠ o + f := by omega
    simp [zup, zwr, ha, h1]
theorem zwr_out (σ : zSg) {o N a : Nat} (M : zSg) (h : a < o ∨ o + N ≤ a) : zwr σ o N M a = σ a := by
  funext j
  unfold zwr
  rw [if_neg (by omega)]
theorem zwr_zwr (σ : zSg) (o N : Nat) (M M' : zSg) : zwr (zwr σ o N M) o N M' = zwr σ o N M' := by
  funext a j
  unfold zwr
  split <;> rfl
theorem zwr_self (σ : zSg) (o N : Nat) : zwr σ o N (fun f j => σ (o + f) j) = σ := by
  funext a j
  unfold zwr
  split
  · rename_i h
    show σ (o + (a - o)) j = σ a j
    rw [Nat.add_sub_cancel' h.1]
  · rfl
theorem zwr_comm (σ : zSg) {o N o' N' : Nat} (M M' : zSg) (h : o + N ≤ o' ∨ o' + N' ≤ o) : zwr (zwr σ o N M) o' N' M' = zwr (zwr σ o' N' M') o N M := by
  funext a j
  unfold zwr
  by_cases h1 : o' ≤ a ∧ a < o' + N' <;> by_cases h2 : o ≤ a ∧ a < o + N
  · omega
  · simp [h1, h2]
  · simp [h1, h2]
  · simp [h1, h2]
/-- the plain end: v is returned, the region holds M, nothing else has changed -/
def zPl (n : Nat) (ly : zLy) (τ : zTu) (σ : zSg) (v : Option Value) : zPost := fun r z ly' τ' σ' => r = .inl v ∧ n ≤ z ∧ ly' = ly ∧ τ' = τ ∧ σ' = σ
section ZD
variable {G : zGm} {X : zCx} {own : String} {cc : ByteArray} {nL bc bs : Nat} {S : Nat → Prop} {ly : zLy} {τ : zTu} {σ : zSg} {pc : Nat} {ls : List (Option Value)} {st : List Value} {post : zPost}
theorem zr_V0 {l : Launch} {D d bc' bs' index maxL : Nat} {y : MethodName} {bytes : ByteArray} {ret : Option FieldType} (hO : zOk G X own cc nL) (hRm : zRm X D) (hL : zLn X l) (hd : d + 1 ≤ D) (hmx : maxL ≤ 17) {C : String} {b c n N0 : Nat} {rf : Nat → Option Nat} {ly' : zLy} {τ' : zTu} {σ' : zSg} {v : Option Value} (hc8 : c < 8) (hly : ly b = (c + 5, n, rf)) (hC : C = zRn c) (hyC : y.cls = C)
    (hM : zEv l G d bc' bs' (y, bytes, maxL, ret) (.ref b :: []) S ly τ σ (zPl N0 ly' τ' σ' v)) (hw1 : Cond.methodLink own index y ∈ lw_tbl) (hw2 : Cond.instanceMethod y ∈ lw_tbl) (hw3 : Cond.selects C y y ∈ lw_tbl) (hw4 : Cond.code y bytes maxL ret ∈ lw_tbl) (hw5 : Cond.initialized C ∈ lw_tbl) (hdy : y.cls ≠ "java/lang/invoke/MethodHandle" ∧ y.cls ≠ "java/lang/invoke/VarHandle" ∧ (parseMethodDescriptor y.desc).map (fun d => d.parameters.length) = some 0) (hcat : (st.map fun v => v.category).sum ≤ 8) (hdg : decode cc pc = .ok (.invokevirtual index, 3)) (hbc : bc' ≤ bc) (hbs : bs' ≤ bs)
    (kk : zV G X nL (bc - bc') (bs - bs') (fun x => N0 ≤ x) ly' τ' σ' (pc + 3) ls (v.toList ++ st)) : zV G X nL bc bs S ly τ σ pc ls (.ref b :: st) :=
  z_callV (As := []) hO hRm hL hd hmx hc8 hly hC hyC hM hw1 hw2 hw3 hw4 hw5 hdy hcat hdg hbc hbs (fun E z ly' τ' σ' h => by cases h.1) (fun v9 z ly9 τ9 σ9 h => by
    obtain ⟨h1, h2, h3, h4, h5⟩ := h
    cases h1; subst h3; subst h4; subst h5
    exact zV_S (fun x hx => by subst hx; exact h2) kk)
theorem zr_S0 {l : Launch} {D d bc' bs' index maxL : Nat} {y : MethodName} {bytes : ByteArray} {ret : Option FieldType} (hO : zOk G X own cc nL) (hRm : zRm X D) (hL : zLn X l) (hd : d + 1 ≤ D) (hmx : maxL ≤ 17) {N0 : Nat} {ly' : zLy} {τ' : zTu} {σ' : zSg} {v : Option Value} (hyC : y.cls = own)
    (hM : zEv l G d bc' bs' (y, bytes, maxL, ret) [] S ly τ σ (zPl N0 ly' τ' σ' v)) (hw1 : Cond.methodLink own index y ∈ lw_tbl) (hw2 : Cond.static y ∈ lw_tbl) (hw4 : Cond.code y bytes maxL ret ∈ lw_tbl) (hw5 : Cond.initialized own ∈ lw_tbl) (hdy : y.cls ≠ "java/lang/invoke/MethodHandle" ∧ y.cls ≠ "java/lang/invoke/VarHandle" ∧ (parseMethodDescriptor y.desc).map (fun d => d.parameters.length) = some 0) (hcat : (st.map fun v => v.category).sum ≤ 8) (hdg : decode cc pc = .ok (.invokestatic index, 3)) (hbc : bc' ≤ bc) (hbs : bs' ≤ bs)
    (kk : zV G X nL (bc - bc') (bs - bs') (fun x => N0 ≤ x) ly' τ' σ' (pc + 3) ls (v.toList ++ st)) : zV G X nL bc bs S ly τ σ pc ls (st) :=
  z_callS (As := []) hO hRm hL hd hmx hyC hM hw1 hw2 hw4 hw5 hdy hcat hdg hbc hbs (fun E z ly' τ' σ' h => by cases h.1) (fun v9 z ly9 τ9 σ9 h => by
    obtain ⟨h1, h2, h3, h4, h5⟩ := h
    cases h1; subst h3; subst h4; subst h5
    exact zV_S (fun x hx => by subst hx; exact h2) kk)
theorem zr_V1 {l : Launch} {D d bc' bs' index maxL : Nat} {y : MethodName} {bytes : ByteArray} {ret : Option FieldType} (hO : zOk G X own cc nL) (hRm : zRm X D) (hL : zLn X l) (hd : d + 1 ≤ D) (hmx : maxL ≤ 17) {C : String} {b c n N0 : Nat} {rf : Nat → Option Nat} {a0 : Value} {ly' : zLy} {τ' : zTu} {σ' : zSg} {v : Option Value} (hc8 : c < 8) (hly : ly b = (c + 5, n, rf)) (hC : C = zRn c) (hyC : y.cls = C)
    (hM : zEv l G d bc' bs' (y, bytes, maxL, ret) (.ref b :: [a0]) S ly τ σ (zPl N0 ly' τ' σ' v)) (hw1 : Cond.methodLink own index y ∈ lw_tbl) (hw2 : Cond.instanceMethod y ∈ lw_tbl) (hw3 : Cond.selects C y y ∈ lw_tbl) (hw4 : Cond.code y bytes maxL ret ∈ lw_tbl) (hw5 : Cond.initialized C ∈ lw_tbl) (hdy : y.cls ≠ "java/lang/invoke/MethodHandle" ∧ y.cls ≠ "java/lang/invoke/VarHandle" ∧ (parseMethodDescriptor y.desc).map (fun d => d.parameters.length) = some 1) (hcat : (st.map fun v => v.category).sum ≤ 8) (hdg : decode cc pc = .ok (.invokevirtual index, 3)) (hbc : bc' ≤ bc) (hbs : bs' ≤ bs)
    (kk : zV G X nL (bc - bc') (bs - bs') (fun x => N0 ≤ x) ly' τ' σ' (pc + 3) ls (v.toList ++ st)) : zV G X nL bc bs S ly τ σ pc ls (a0 :: .ref b :: st) :=
  z_callV (As := [a0]) hO hRm hL hd hmx hc8 hly hC hyC hM hw1 hw2 hw3 hw4 hw5 hdy hcat hdg hbc hbs (fun E z ly' τ' σ' h => by cases h.1) (fun v9 z ly9 τ9 σ9 h => by
    obtain ⟨h1, h2, h3, h4, h5⟩ := h
    cases h1; subst h3; subst h4; subst h5
    exact zV_S (fun x hx => by subst hx; exact h2) kk)
theorem zr_S1 {l : Launch} {D d bc' bs' index maxL : Nat} {y : MethodName} {bytes : ByteArray} {ret : Option FieldType} (hO : zOk G X own cc nL) (hRm : zRm X D) (hL : zLn X l) (hd : d + 1 ≤ D) (hmx : maxL ≤ 17) {N0 : Nat} {a0 : Value} {ly' : zLy} {τ' : zTu} {σ' : zSg} {v : Option Value} (hyC : y.cls = own)
    (hM : zEv l G d bc' bs' (y, bytes, maxL, ret) [a0] S ly τ σ (zPl N0 ly' τ' σ' v)) (hw1 : Cond.methodLink own index y ∈ lw_tbl) (hw2 : Cond.static y ∈ lw_tbl) (hw4 : Cond.code y bytes maxL ret ∈ lw_tbl) (hw5 : Cond.initialized own ∈ lw_tbl) (hdy : y.cls ≠ "java/lang/invoke/MethodHandle" ∧ y.cls ≠ "java/lang/invoke/VarHandle" ∧ (parseMethodDescriptor y.desc).map (fun d => d.parameters.length) = some 1) (hcat : (st.map fun v => v.category).sum ≤ 8) (hdg : decode cc pc = .ok (.invokestatic index, 3)) (hbc : bc' ≤ bc) (hbs : bs' ≤ bs)
    (kk : zV G X nL (bc - bc') (bs - bs') (fun x => N0 ≤ x) ly' τ' σ' (pc + 3) ls (v.toList ++ st)) : zV G X nL bc bs S ly τ σ pc ls (a0 :: st) :=
  z_callS (As := [a0]) hO hRm hL hd hmx hyC hM hw1 hw2 hw4 hw5 hdy hcat hdg hbc hbs (fun E z ly' τ' σ' h => by cases h.1) (fun v9 z ly9 τ9 σ9 h => by
    obtain ⟨h1, h2, h3, h4, h5⟩ := h
    cases h1; subst h3; subst h4; subst h5
    exact zV_S (fun x hx => by subst hx; exact h2) kk)
theorem zr_V2 {l : Launch} {D d bc' bs' index maxL : Nat} {y : MethodName} {bytes : ByteArray} {ret : Option FieldType} (hO : zOk G X own cc nL) (hRm : zRm X D) (hL : zLn X l) (hd : d + 1 ≤ D) (hmx : maxL ≤ 17) {C : String} {b c n N0 : Nat} {rf : Nat → Option Nat} {a0 a1 : Value} {ly' : zLy} {τ' : zTu} {σ' : zSg} {v : Option Value} (hc8 : c < 8) (hly : ly b = (c + 5, n, rf)) (hC : C = zRn c) (hyC : y.cls = C)
    (hM : zEv l G d bc' bs' (y, bytes, maxL, ret) (.ref b :: [a0, a1]) S ly τ σ (zPl N0 ly' τ' σ' v)) (hw1 : Cond.methodLink own index y ∈ lw_tbl) (hw2 : Cond.instanceMethod y ∈ lw_tbl) (hw3 : Cond.selects C y y ∈ lw_tbl) (hw4 : Cond.code y bytes maxL ret ∈ lw_tbl) (hw5 : Cond.initialized C ∈ lw_tbl) (hdy : y.cls ≠ "java/lang/invoke/MethodHandle" ∧ y.cls ≠ "java/lang/invoke/VarHandle" ∧ (parseMethodDescriptor y.desc).map (fun d => d.parameters.length) = some 2) (hcat : (st.map fun v => v.category).sum ≤ 8) (hdg : decode cc pc = .ok (.invokevirtual index, 3)) (hbc : bc' ≤ bc) (hbs : bs' ≤ bs)
    (kk : zV G X nL (bc - bc') (bs - bs') (fun x => N0 ≤ x) ly' τ' σ' (pc + 3) ls (v.toList ++ st)) : zV G X nL bc bs S ly τ σ pc ls (a1 :: a0 :: .ref b :: st) :=
  z_callV (As := [a0, a1]) hO hRm hL hd hmx hc8 hly hC hyC hM hw1 hw2 hw3 hw4 hw5 hdy hcat hdg hbc hbs (fun E z ly' τ' σ' h => by cases h.1) (fun v9 z ly9 τ9 σ9 h => by
    obtain ⟨h1, h2, h3, h4, h5⟩ := h
    cases h1; subst h3; subst h4; subst h5
    exact zV_S (fun x hx => by subst hx; exact h2) kk)
theorem zr_S2 {l : Launch} {D d bc' bs' index maxL : Nat} {y : MethodName} {bytes : ByteArray} {ret : Option FieldType} (hO : zOk G X own cc nL) (hRm : zRm X D) (hL : zLn X l) (hd : d + 1 ≤ D) (hmx : maxL ≤ 17) {N0 : Nat} {a0 a1 : Value} {ly' : zLy} {τ' : zTu} {σ' : zSg} {v : Option Value} (hyC : y.cls = own)
    (hM : zEv l G d bc' bs' (y, bytes, maxL, ret) [a0, a1] S ly τ σ (zPl N0 ly' τ' σ' v)) (hw1 : Cond.methodLink own index y ∈ lw_tbl) (hw2 : Cond.static y ∈ lw_tbl) (hw4 : Cond.code y bytes maxL ret ∈ lw_tbl) (hw5 : Cond.initialized own ∈ lw_tbl) (hdy : y.cls ≠ "java/lang/invoke/MethodHandle" ∧ y.cls ≠ "java/lang/invoke/VarHandle" ∧ (parseMethodDescriptor y.desc).map (fun d => d.parameters.length) = some 2) (hcat : (st.map fun v => v.category).sum ≤ 8) (hdg : decode cc pc = .ok (.invokestatic index, 3)) (hbc : bc' ≤ bc) (hbs : bs' ≤ bs)
    (kk : zV G X nL (bc - bc') (bs - bs') (fun x => N0 ≤ x) ly' τ' σ' (pc + 3) ls (v.toList ++ st)) : zV G X nL bc bs S ly τ σ pc ls (a1 :: a0 :: st) :=
  z_callS (As := [a0, a1]) hO hRm hL hd hmx hyC hM hw1 hw2 hw4 hw5 hdy hcat hdg hbc hbs (fun E z ly' τ' σ' h => by cases h.1) (fun v9 z ly9 τ9 σ9 h => by
    obtain ⟨h1, h2, h3, h4, h5⟩ := h
    cases h1; subst h3; subst h4; subst h5
    exact zV_S (fun x hx => by subst hx; exact h2) kk)
theorem zr_V3 {l : Launch} {D d bc' bs' index maxL : Nat} {y : MethodName} {bytes : ByteArray} {ret : Option FieldType} (hO : zOk G X own cc nL) (hRm : zRm X D) (hL : zLn X l) (hd : d + 1 ≤ D) (hmx : maxL ≤ 17) {C : String} {b c n N0 : Nat} {rf : Nat → Option Nat} {a0 a1 a2 : Value} {ly' : zLy} {τ' : zTu} {σ' : zSg} {v : Option Value} (hc8 : c < 8) (hly : ly b = (c + 5, n, rf)) (hC : C = zRn c) (hyC : y.cls = C)
    (hM : zEv l G d bc' bs' (y, bytes, maxL, ret) (.ref b :: [a0, a1, a2]) S ly τ σ (zPl N0 ly' τ' σ' v)) (hw1 : Cond.methodLink own index y ∈ lw_tbl) (hw2 : Cond.instanceMethod y ∈ lw_tbl) (hw3 : Cond.selects C y y ∈ lw_tbl) (hw4 : Cond.code y bytes maxL ret ∈ lw_tbl) (hw5 : Cond.initialized C ∈ lw_tbl) (hdy : y.cls ≠ "java/lang/invoke/MethodHandle" ∧ y.cls ≠ "java/lang/invoke/VarHandle" ∧ (parseMethodDescriptor y.desc).map (fun d => d.parameters.length) = some 3) (hcat : (st.map fun v => v.category).sum ≤ 8) (hdg : decode cc pc = .ok (.invokevirtual index, 3)) (hbc : bc' ≤ bc) (hbs : bs' ≤ bs)
    (kk : zV G X nL (bc - bc') (bs - bs') (fun x => N0 ≤ x) ly' τ' σ' (pc + 3) ls (v.toList ++ st)) : zV G X nL bc bs S ly τ σ pc ls (a2 :: a1 :: a0 :: .ref b :: st) :=
  z_callV (As := [a0, a1, a2]) hO hRm hL hd hmx hc8 hly hC hyC hM hw1 hw2 hw3 hw4 hw5 hdy hcat hdg hbc hbs (fun E z ly' τ' σ' h => by cases h.1) (fun v9 z ly9 τ9 σ9 h => by
    obtain ⟨h1, h2, h3, h4, h5⟩ := h
    cases h1; subst h3; subst h4; subst h5
    exact zV_S (fun x hx => by subst hx; exact h2) kk)
theorem zr_S3 {l : Launch} {D d bc' bs' index maxL : Nat} {y : MethodName} {bytes : ByteArray} {ret : Option FieldType} (hO : zOk G X own cc nL) (hRm : zRm X D) (hL : zLn X l) (hd : d + 1 ≤ D) (hmx : maxL ≤ 17) {N0 : Nat} {a0 a1 a2 : Value} {ly' : zLy} {τ' : zTu} {σ' : zSg} {v : Option Value} (hyC : y.cls = own)
    (hM : zEv l G d bc' bs' (y, bytes, maxL, ret) [a0, a1, a2] S ly τ σ (zPl N0 ly' τ' σ' v)) (hw1 : Cond.methodLink own index y ∈ lw_tbl) (hw2 : Cond.static y ∈ lw_tbl) (hw4 : Cond.code y bytes maxL ret ∈ lw_tbl) (hw5 : Cond.initialized own ∈ lw_tbl) (hdy : y.cls ≠ "java/lang/invoke/MethodHandle" ∧ y.cls ≠ "java/lang/invoke/VarHandle" ∧ (parseMethodDescriptor y.desc).map (fun d => d.parameters.length) = some 3) (hcat : (st.map fun v => v.category).sum ≤ 8) (hdg : decode cc pc = .ok (.invokestatic index, 3)) (hbc : bc' ≤ bc) (hbs : bs' ≤ bs)
    (kk : zV G X nL (bc - bc') (bs - bs') (fun x => N0 ≤ x) ly' τ' σ' (pc + 3) ls (v.toList ++ st)) : zV G X nL bc bs S ly τ σ pc ls (a2 :: a1 :: a0 :: st) :=
  z_callS (As := [a0, a1, a2]) hO hRm hL hd hmx hyC hM hw1 hw2 hw4 hw5 hdy hcat hdg hbc hbs (fun E z ly' τ' σ' h => by cases h.1) (fun v9 z ly9 τ9 σ9 h => by
    obtain ⟨h1, h2, h3, h4, h5⟩ := h
    cases h1; subst h3; subst h4; subst h5
    exact zV_S (fun x hx => by subst hx; exact h2) kk)
theorem zr_V4 {l : Launch} {D d bc' bs' index maxL : Nat} {y : MethodName} {bytes : ByteArray} {ret : Option FieldType} (hO : zOk G X own cc nL) (hRm : zRm X D) (hL : zLn X l) (hd : d + 1 ≤ D) (hmx : maxL ≤ 17) {C : String} {b c n N0 : Nat} {rf : Nat → Option Nat} {a0 a1 a2 a3 : Value} {ly' : zLy} {τ' : zTu} {σ' : zSg} {v : Option Value} (hc8 : c < 8) (hly : ly b = (c + 5, n, rf)) (hC : C = zRn c) (hyC : y.cls = C)
    (hM : zEv l G d bc' bs' (y, bytes, maxL, ret) (.ref b :: [a0, a1, a2, a3]) S ly τ σ (zPl N0 ly' τ' σ' v)) (hw1 : Cond.methodLink own index y ∈ lw_tbl) (hw2 : Cond.instanceMethod y ∈ lw_tbl) (hw3 : Cond.selects C y y ∈ lw_tbl) (hw4 : Cond.code y bytes maxL ret ∈ lw_tbl) (hw5 : Cond.initialized C ∈ lw_tbl) (hdy : y.cls ≠ "java/lang/invoke/MethodHandle" ∧ y.cls ≠ "java/lang/invoke/VarHandle" ∧ (parseMethodDescriptor y.desc).map (fun d => d.parameters.length) = some 4) (hcat : (st.map fun v => v.category).sum ≤ 8) (hdg : decode cc pc = .ok (.invokevirtual index, 3)) (hbc : bc' ≤ bc) (hbs : bs' ≤ bs)
    (kk : zV G X nL (bc - bc') (bs - bs') (fun x => N0 ≤ x) ly' τ' σ' (pc + 3) ls (v.toList ++ st)) : zV G X nL bc bs S ly τ σ pc ls (a3 :: a2 :: a1 :: a0 :: .ref b :: st) :=
  z_callV (As := [a0, a1, a2, a3]) hO hRm hL hd hmx hc8 hly hC hyC hM hw1 hw2 hw3 hw4 hw5 hdy hcat hdg hbc hbs (fun E z ly' τ' σ' h => by cases h.1) (fun v9 z ly9 τ9 σ9 h => by
    obtain ⟨h1, h2, h3, h4, h5⟩ := h
    cases h1; subst h3; subst h4; subst h5
    exact zV_S (fun x hx => by subst hx; exact h2) kk)
theorem zr_S4 {l : Launch} {D d bc' bs' index maxL : Nat} {y : MethodName} {bytes : ByteArray} {ret : Option FieldType} (hO : zOk G X own cc nL) (hRm : zRm X D) (hL : zLn X l) (hd : d + 1 ≤ D) (hmx : maxL ≤ 17) {N0 : Nat} {a0 a1 a2 a3 : Value} {ly' : zLy} {τ' : zTu} {σ' : zSg} {v : Option Value} (hyC : y.cls = own)
    (hM : zEv l G d bc' bs' (y, bytes, maxL, ret) [a0, a1, a2, a3] S ly τ σ (zPl N0 ly' τ' σ' v)) (hw1 : Cond.methodLink own index y ∈ lw_tbl) (hw2 : Cond.static y ∈ lw_tbl) (hw4 : Cond.code y bytes maxL ret ∈ lw_tbl) (hw5 : Cond.initialized own ∈ lw_tbl) (hdy : y.cls ≠ "java/lang/invoke/MethodHandle" ∧ y.cls ≠ "java/lang/invoke/VarHandle" ∧ (parseMethodDescriptor y.desc).map (fun d => d.parameters.length) = some 4) (hcat : (st.map fun v => v.category).sum ≤ 8) (hdg : decode cc pc = .ok (.invokestatic index, 3)) (hbc : bc' ≤ bc) (hbs : bs' ≤ bs)
    (kk : zV G X nL (bc - bc') (bs - bs') (fun x => N0 ≤ x) ly' τ' σ' (pc + 3) ls (v.toList ++ st)) : zV G X nL bc bs S ly τ σ pc ls (a3 :: a2 :: a1 :: a0 :: st) :=
  z_callS (As := [a0, a1, a2, a3]) hO hRm hL hd hmx hyC hM hw1 hw2 hw4 hw5 hdy hcat hdg hbc hbs (fun E z ly' τ' σ' h => by cases h.1) (fun v9 z ly9 τ9 σ9 h => by
    obtain ⟨h1, h2, h3, h4, h5⟩ := h
    cases h1; subst h3; subst h4; subst h5
    exact zV_S (fun x hx => by subst hx; exact h2) kk)
end ZD
