/-! Constructors called, exceptions thrown and caught, copies -/
def zwsH (y : zY) (hh : List (Nat × Nat × Nat × Nat)) : List Cond := Cond.codeWith y.1 y.2.1 y.2.2.1 y.2.2.2 hh :: zWT
/-- the contract of a method with a table of its own -/
def zEvH (l : Launch) (G : zGm) (d bc bs : Nat) (y : zY) (hh : List (Nat × Nat × Nat × Nat)) (as : List Value) (S : Nat → Prop) (ly : zLy) (τ : zTu) (σ : zSg) (post : zPost) : Prop :=
  vx_Met l y.1 (zwsH y hh) (zrm d bc bs) (zPc G S ly τ σ as) (zQc G post) (zXC G post) bc bs (zA G)
def zTab (X : zCx) (hh : List (Nat × Nat × Nat × Nat)) : Prop := match X with
  | (p, l, e, R, s, m, args, below, meth, c, Q) => c.exceptionTable.toList = tableOf hh
theorem zEvH_of {l : Launch} {G : zGm} {d bc bs : Nat} {y : MethodName} {cc : ByteArray} {nL : Nat} {ret : Option FieldType} {hh : List (Nat × Nat × Nat × Nat)} {as : List Value} {S : Nat → Prop} {ly : zLy} {τ : zTu} {σ : zSg} {post : zPost} {ls : List (Option Value)} (hl : l.stackTraces = false)
    (hy : plainName y.cls = true) (hn : (lg_sl as).length ≤ nL) (hs : zas ls = lv_args 0 as)
    (body : ∀ X : zCx, zOk G X y.cls cc nL → zEnd G X post ret → zTab X hh → zRm X d → zLn X l → zNm X y.name → zV G X nL bc bs S ly τ σ 0 ls []) : zEvH l G d bc bs (y, cc, nL, ret) hh as S ly τ σ post := by
  refine vx_ofWH (cc := cc) (maxL := nL) (ret := ret) (hh := hh) hy rfl ?_
  intro p e s m args below meth c s₁ B hml hv
  obtain ⟨rfl, hK, hR⟩ := hv
  have hts := atoms_spec (ws := zwsH (y, cc, nL, ret) hh) B.pre
  have hts2 : ∀ w ∈ lw_tbl, goodWord w = true → w.before as.toArray s = true := fun w hw hg => hts w (List.mem_cons_of_mem _ (zWT_in hw hg))
  have hown : s.vm.findClass y.cls = some m.cls := findClass_of_methodNamed B.named
  have hnm := (name_of_methodNamed B.named B.method).1
  have htb := vx_table (x := y) B (hts _ List.mem_cons_self)
  rw [lg_entry_eq]
  exact body (p, l, e, (headSpec (zwsH (y, cc, nL, ret) hh) (zrm d bc bs)).room, s, m, as.toArray, below, meth, c, _) ⟨B.exec, B.bytes, hml, hown, hts2, B.notSynchronized, hK, hl⟩ ⟨B.returns, rfl⟩ htb ⟨Nat.le_refl _, Nat.le_refl _⟩ rfl hnm
    s.heap [] 0 0 _ hR va_S.rf (by show 0 + bc ≤ bc; omega) (by show 0 + bs ≤ bs; omega) (zlas2 as hn hs)
theorem zgoodH {y : zY} {hh : List (Nat × Nat × Nat × Nat)} (hc : Cond.codeWith y.1 y.2.1 y.2.2.1 y.2.2.2 hh ∈ lw_tbl) (hg : goodWord (Cond.codeWith y.1 y.2.1 y.2.2.1 y.2.2.2 hh) = true) : GoodIn zWT (zwsH y hh) := by
  intro w hw
  rcases List.mem_cons.mp hw with rfl | hw
  · exact ⟨zWT_in hc hg, good_of_word hg⟩
  · exact ⟨hw, good_of_word (List.mem_filter.mp hw).2⟩
section ZK
variable {G : zGm} {X : zCx} {own : String} {cc : ByteArray} {nL bc bs : Nat} {S : Nat → Prop} {ly : zLy} {τ : zTu} {σ : zSg} {pc : Nat} {ls : List (Option Value)} {st : List Value} {post : zPost}
theorem z_callI {l : Launch} {D d bc' bs' index maxL : Nat} {y : MethodName} {bytes : ByteArray} {ret : Option FieldType} {post' : zPost} (hO : zOk G X own cc nL) (hRm : zRm X D) (hL : zLn X l) (hd : d + 1 ≤ D) (hmx : maxL ≤ 17) {b : Nat} {As : List Value} (hy1 : y.name = "<init>") (hret : ret = none)
    (hM : zEv l G d bc' bs' (y, bytes, maxL, ret) (.ref b :: As) S ly τ σ post')
    (hw1 : Cond.methodLink own index y ∈ lw_tbl) (hw2 : Cond.instanceMethod y ∈ lw_tbl) (hw4 : Cond.code y bytes maxL ret ∈ lw_tbl) (hw5 : Cond.initialized y.cls ∈ lw_tbl)
    (hdy : y.cls ≠ "java/lang/invoke/MethodHandle" ∧ y.cls ≠ "java/lang/invoke/VarHandle" ∧ (parseMethodDescriptor y.desc).map (fun d => d.parameters.length) = some As.length) (hcat : (st.map fun v => v.category).sum ≤ 8) (hdg : decode cc pc = .ok (.invokespecial index, 3)) (hbc : bc' ≤ bc) (hbs : bs' ≤ bs)
    (kx : ∀ (E : String) (z : Nat) (ly' : zLy) (τ' : zTu) (σ' : zSg), post' (.inr E) z ly' τ' σ' → zVX G X nL (bc - bc') (bs - bs') (fun x => x = z) ly' τ' σ' pc ls st E)
    (kk : ∀ (v : Option Value) (z : Nat) (ly' : zLy) (τ' : zTu) (σ' : zSg), post' (.inl v) z ly' τ' σ' → zV G X nL (bc - bc') (bs - bs') (fun x => x = z) ly' τ' σ' (pc + 3) ls (v.toList ++ st)) : zV G X nL bc bs S ly τ σ pc ls (As.reverse ++ .ref b :: st) := by
  subst hret
  refine z_run (as := .ref b :: As) hO ?_ hbc hbs kx kk
  obtain ⟨p, l9, e, R, s, m, args, below, meth, c0, Q⟩ := X
  obtain ⟨hx, hb, hml, hown, hts, hlk, hK, htr⟩ := hO
  obtain ⟨hr1, hr2⟩ := hRm
  cases hL
  intro H locs cells slots la hR hS h1 h2 hl
  have hT : ∀ w ∈ zWT, w.before args s = true := fun w hw => hts w (List.mem_filter.mp hw).1 (List.mem_filter.mp hw).2
  have hP := zPc_of (as := .ref b :: As) hK hR hS
  exact vx_runI (As := As) (n := As.length) (rest := st) ⟨hx, hb, hml, hown, hT⟩ hM (cwI As.length hT (zgood (y := (y, bytes, maxL, none)) hw4) rfl rfl rfl (hts _ hw5 rfl) (hts _ hw1 rfl) (hts _ hw2 rfl) hy1 hdy ⟨by show d + 1 ≤ _; omega, by show 8 + (maxL + 11) + 36 * d ≤ _; omega⟩) hP rfl rfl hl.1 rfl (lv_room hcat) hdg ⟨by omega, by omega⟩
/-- a private constructor of a nest mate -/
theorem z_callIN {l : Launch} {D d bc' bs' index maxL : Nat} {y : MethodName} {bytes : ByteArray} {ret : Option FieldType} {post' : zPost} (hO : zOk G X own cc nL) (hRm : zRm X D) (hL : zLn X l) (hd : d + 1 ≤ D) (hmx : maxL ≤ 17) {host : String} {b : Nat} {As : List Value} (hy1 : y.name = "<init>") (hret : ret = none)
    (hM : zEv l G d bc' bs' (y, bytes, maxL, ret) (.ref b :: As) S ly τ σ post')
    (hw1 : Cond.methodLinkNest own index y host ∈ lw_tbl) (hw2 : Cond.instanceMethod y ∈ lw_tbl) (hw4 : Cond.code y bytes maxL ret ∈ lw_tbl) (hw5 : Cond.initialized y.cls ∈ lw_tbl)
    (hdy : y.cls ≠ "java/lang/invoke/MethodHandle" ∧ y.cls ≠ "java/lang/invoke/VarHandle" ∧ (parseMethodDescriptor y.desc).map (fun d => d.parameters.length) = some As.length) (hcat : (st.map fun v => v.category).sum ≤ 8) (hdg : decode cc pc = .ok (.invokespecial index, 3)) (hbc : bc' ≤ bc) (hbs : bs' ≤ bs)
    (kx : ∀ (E : String) (z : Nat) (ly' : zLy) (τ' : zTu) (σ' : zSg), post' (.inr E) z ly' τ' σ' → zVX G X nL (bc - bc') (bs - bs') (fun x => x = z) ly' τ' σ' pc ls st E)
    (kk : ∀ (v : Option Value) (z : Nat) (ly' : zLy) (τ' : zTu) (σ' : zSg), post' (.inl v) z ly' τ' σ' → zV G X nL (bc - bc') (bs - bs') (fun x => x = z) ly' τ' σ' (pc + 3) ls (v.toList ++ st)) : zV G X nL bc bs S ly τ σ pc ls (As.reverse ++ .ref b :: st) := by
  subst hret
  refine z_run (as := .ref b :: As) hO ?_ hbc hbs kx kk
  obtain ⟨p, l9, e, R, s, m, args, below, meth, c0, Q⟩ := X
  obtain ⟨hx, hb, hml, hown, hts, hlk, hK, htr⟩ := hO
  obtain ⟨hr1, hr2⟩ := hRm
  cases hL
  intro H locs cells slots la hR hS h1 h2 hl
  have hT : ∀ w ∈ zWT, w.before args s = true := fun w hw => hts w (List.mem_filter.mp hw).1 (List.mem_filter.mp hw).2
  have hP := zPc_of (as := .ref b :: As) hK hR hS
  have hnest : va_Nw (.methodLinkNest own index y host) s := hK.2.2.2.2.2.2.1 _ hw1 rfl
  exact vx_runIN (As := As) (n := As.length) (rest := st) ⟨hx, hb, hml, hown, hT⟩ hM ⟨va_cnB As.length hT (zgood (y := (y, bytes, maxL, none)) hw4) rfl rfl rfl hnest (hts _ hw5 rfl) hdy ⟨by show d + 1 ≤ _; omega, by show 8 + (maxL + 11) + 36 * d ≤ _; omega⟩, hy1, hts _ hw2 rfl⟩ hP rfl rfl hl.1 rfl (lv_room hcat) hdg ⟨by omega, by omega⟩
/-- a static method with a table of its own -/
theorem z_callSH {l : Launch} {D d bc' bs' index maxL : Nat} {y : MethodName} {bytes : ByteArray} {ret : Option FieldType} {post' : zPost} (hO : zOk G X own cc nL) (hRm : zRm X D) (hL : zLn X l) (hd : d + 1 ≤ D) (hmx : maxL ≤ 17) {hh : List (Nat × Nat × Nat × Nat)} {As : List Value} (hyC : y.cls = own)
    (hM : zEvH l G d bc' bs' (y, bytes, maxL, ret) hh As S ly τ σ post')
    (hw1 : Cond.methodLink own index y ∈ lw_tbl) (hw2 : Cond.static y ∈ lw_tbl) (hw4 : Cond.codeWith y bytes maxL ret hh ∈ lw_tbl) (hg4 : goodWord (Cond.codeWith y bytes maxL ret hh) = true) (hw5 : Cond.initialized y.cls ∈ lw_tbl)
    (hdy : y.cls ≠ "java/lang/invoke/MethodHandle" ∧ y.cls ≠ "java/lang/invoke/VarHandle" ∧ (parseMethodDescriptor y.desc).map (fun d => d.parameters.length) = some As.length) (hcat : (st.map fun v => v.category).sum ≤ 8) (hdg : decode cc pc = .ok (.invokestatic index, 3)) (hbc : bc' ≤ bc) (hbs : bs' ≤ bs)
    (kx : ∀ (E : String) (z : Nat) (ly' : zLy) (τ' : zTu) (σ' : zSg), post' (.inr E) z ly' τ' σ' → zVX G X nL (bc - bc') (bs - bs') (fun x => x = z) ly' τ' σ' pc ls st E)
    (kk : ∀ (v : Option Value) (z : Nat) (ly' : zLy) (τ' : zTu) (σ' : zSg), post' (.inl v) z ly' τ' σ' → zV G X nL (bc - bc') (bs - bs') (fun x => x = z) ly' τ' σ' (pc + 3) ls (v.toList ++ st)) : zV G X nL bc bs S ly τ σ pc ls (As.reverse ++ st) := by
  refine z_run (as := As) hO ?_ hbc hbs kx kk
  obtain ⟨p, l9, e, R, s, m, args, below, meth, c0, Q⟩ := X
  obtain ⟨hx, hb, hml, hown, hts, hlk, hK, htr⟩ := hO
  obtain ⟨hr1, hr2⟩ := hRm
  cases hL
  intro H locs cells slots la hR hS h1 h2 hl
  have hT : ∀ w ∈ zWT, w.before args s = true := fun w hw => hts w (List.mem_filter.mp hw).1 (List.mem_filter.mp hw).2
  have hP := zPc_of (as := As) hK hR hS
  refine vx_runSX (As := As) (n := As.length) (rest := st) ⟨hx, hb, hml, hown, hT⟩ hM (vx_cwSW As.length hT ?_ rfl rfl rfl hdy ⟨by show d + 1 ≤ _; omega, by show 8 + (maxL + 11) + 36 * d ≤ _; omega⟩) hP rfl rfl hl.1 rfl (lv_room hcat) hdg ⟨by omega, by omega⟩
  intro w hw
  unfold va_wsS at hw
  rcases List.mem_append.mp hw with hw | hw
  · simp only [List.mem_cons, List.not_mem_nil, or_false] at hw
    rcases hw with rfl | rfl | rfl
    · exact ⟨zWT_in hw1 rfl, Or.inl rfl⟩
    · exact ⟨zWT_in hw2 rfl, Or.inl rfl⟩
    · exact ⟨zWT_in hw5 rfl, Or.inl rfl⟩
  · exact zgoodH (y := (y, bytes, maxL, ret)) hw4 hg4 w hw
/-- caught -/
theorem zX_catch (hO : zOk G X own cc nL) {hh : List (Nat × Nat × Nat × Nat)} (hT : zTab X hh) {E name : String} (pre suf : List (Nat × Nat × Nat × Nat)) {a1 a2 a3 ct : Nat} (hsplit : hh = pre ++ (a1, a2, a3, ct) :: suf)
    (hpass : ∀ z ∈ pre, z.2.2.2 ≠ 0 ∧ ∃ nm : String, (Cond.classLink own z.2.2.2 nm) ∈ lw_tbl ∧ (E, nm) ∈ zncs) (hin : a1 ≤ pc ∧ pc < a2) (h0 : ct ≠ 0)
    (hlink : Cond.classLink own ct name ∈ lw_tbl) (hcast : Cond.castable E name ∈ lw_tbl) (kk : ∀ q, zV G X nL bc bs S ly τ σ a3 ls [.ref q]) : zVX G X nL bc bs S ly τ σ pc ls st E := by
  obtain ⟨p, l, e, R, s, m, args, below, meth, c0, Q⟩ := X
  obtain ⟨hx, hb, hml, hown, hts, hlk, hK, htr⟩ := hO
  intro H locs cells slots la q ce hR hS h1 h2 hl hce hcv hcl
  have hT2 : c0.exceptionTable.toList = tableOf hh := hT
  refine vx_catch (name := name) hown (tableOf pre) ⟨a1, a2, a3, ct⟩ (tableOf suf) (by rw [hT2, hsplit]; unfold tableOf; rw [List.map_append]; rfl) (fun z hz => Or.inr ?_) (by simp only [covers]; simpa using hin) h0 (hts _ hlink rfl) (zokw_use (w := Cond.castable E name) rfl (hK.2.2.2.2.2.2.1 _ hcast rfl)) hce hcv hcl (kk q H locs cells slots la hR hS h1 h2 hl)
  unfold tableOf at hz
  obtain ⟨z0, hz0, rfl⟩ := List.mem_map.mp hz
  obtain ⟨g1, nm, g2, g3⟩ := hpass z0 hz0
  exact ⟨g1, nm, hts _ g2 rfl, hK.2.2.2.2.2.2.2.2.2 _ g3⟩
end ZK
