/-! The law: its script, its objects, its small methods -/
section ZLR
variable {G : zGm} {X : zCx} {own : String} {cc : ByteArray} {nL bc bs : Nat} {S : Nat → Prop} {ly : zLy} {τ : zTu} {σ : zSg} {pc : Nat} {ls : List (Option Value)} {st : List Value}
theorem zr_slen (hO : zOk G X own cc nL) (hdg : decode cc pc = .ok (.arraylength, 1)) (kk : zV G X nL bc bs S ly τ σ (pc + 1) ls (.int (Int32.ofNat G.2.2.2.2.1) :: st)) : zV G X nL bc bs S ly τ σ pc ls (.ref G.2.2.2.1 :: st) := by
  obtain ⟨p, l, e, R, s, m, args, below, meth, c0, Q⟩ := X
  obtain ⟨hx, hb, hml, hown, hts, hlk, hK, htr⟩ := hO
  intro H locs cells slots la hR hS h1 h2 hl
  exact va_slen hx hb hK.2.2.1.1 (Nat.lt_of_lt_of_le hK.2.2.1.2 hK.2.1) (Nat.not_le.mpr hK.2.2.1.2) hS hdg (kk H locs cells slots la hR hS h1 h2 hl)
theorem zr_sld (hO : zOk G X own cc nL) {i : Int32} (hin : vp_in i G.2.2.2.2.1) (hdg : decode cc pc = .ok (.iaload, 1)) (kk : zV G X nL bc bs S ly τ σ (pc + 1) ls (.int (G.2.2.2.2.2 (ix i)) :: st)) : zV G X nL bc bs S ly τ σ pc ls (.int i :: .ref G.2.2.2.1 :: st) := by
  obtain ⟨p, l, e, R, s, m, args, below, meth, c0, Q⟩ := X
  obtain ⟨hx, hb, hml, hown, hts, hlk, hK, htr⟩ := hO
  intro H locs cells slots la hR hS h1 h2 hl
  exact va_sld hx hb hK.2.2.1.1 (Nat.lt_of_lt_of_le hK.2.2.1.2 hK.2.1) (Nat.not_le.mpr hK.2.2.1.2) hS hin hdg (kk H locs cells slots la hR hS h1 h2 hl)
theorem zr_tabOut (hO : zOk G X own cc nL) {dflt lo hi : Int} {offs : Array Int} {len : Nat} {x : Int32} {tgt : Nat} (hdg : decode cc pc = .ok (.tableswitch dflt lo hi offs, len)) (h : x.toInt < lo ∨ hi < x.toInt) (ht : (pc : Int) + dflt = (tgt : Int)) (kk : zV G X nL bc bs S ly τ σ tgt ls st) : zV G X nL bc bs S ly τ σ pc ls (.int x :: st) := by
  obtain ⟨p, l, e, R, s, m, args, below, meth, c0, Q⟩ := X
  obtain ⟨hx, hb, hml, hown, hts, hlk, hK, htr⟩ := hO
  intro H locs cells slots la hR hS h1 h2 hl
  exact lv_tableOut hx hb hdg h ht (kk H locs cells slots la hR hS h1 h2 hl)
theorem zr_tabIn (hO : zOk G X own cc nL) {dflt lo hi : Int} {offs : Array Int} {len : Nat} {x : Int32} {off : Int} {tgt : Nat} (hdg : decode cc pc = .ok (.tableswitch dflt lo hi offs, len)) (g1 : ¬ x.toInt < lo) (g2 : ¬ hi < x.toInt) (ho : offs[(x.toInt - lo).toNat]? = some off) (ht : (pc : Int) + off = (tgt : Int)) (kk : zV G X nL bc bs S ly τ σ tgt ls st) : zV G X nL bc bs S ly τ σ pc ls (.int x :: st) := by
  obtain ⟨p, l, e, R, s, m, args, below, meth, c0, Q⟩ := X
  obtain ⟨hx, hb, hml, hown, hts, hlk, hK, htr⟩ := hO
  intro H locs cells slots la hR hS h1 h2 hl
  exact lv_tableIn hx hb hdg g1 g2 ho ht (kk H locs cells slots la hR hS h1 h2 hl)
theorem zr_imul (hO : zOk G X own cc nL) {x y : Int32} (hdg : decode cc pc = .ok (.imul, 1)) (k : zV G X nL bc bs S ly τ σ (pc + 1) ls (.int (x * y) :: st)) : zV G X nL bc bs S ly τ σ pc ls (.int y :: .int x :: st) := by
  obtain ⟨p, l, e, R, s, m, args, below, meth, c0, Q⟩ := X
  obtain ⟨hx, hb, hml, hown, hts, hlk, hK, htr⟩ := hO
  intro H locs cells slots la hR hS h1 h2 hl
  exact lv_imul hx hb hdg (k H locs cells slots la hR hS h1 h2 hl)
theorem zr_dconst1 (hO : zOk G X own cc nL) (hdg : decode cc pc = .ok (.dconst 1, 1)) (k : zV G X nL bc bs S ly τ σ (pc + 1) ls (.double FP.dconst1 :: st)) : zV G X nL bc bs S ly τ σ pc ls (st) := by
  obtain ⟨p, l, e, R, s, m, args, below, meth, c0, Q⟩ := X
  obtain ⟨hx, hb, hml, hown, hts, hlk, hK, htr⟩ := hO
  intro H locs cells slots la hR hS h1 h2 hl
  exact lv_dconst1 hx hb hdg (k H locs cells slots la hR hS h1 h2 hl)
theorem zr_ldc (hO : zOk G X own cc nL) {index : Nat} {v : Int32} (hw : (Jvm.Cond.constant own index v) ∈ lw_tbl) (hg : goodWord (Jvm.Cond.constant own index v) = true) (hdg : decode cc pc = .ok (.ldc index, 2)) (k : zV G X nL bc bs S ly τ σ (pc + 2) ls (.int v :: st)) : zV G X nL bc bs S ly τ σ pc ls st := by
  obtain ⟨p, l, e, R, s, m, args, below, meth, c0, Q⟩ := X
  obtain ⟨hx, hb, hml, hown, hts, hlk, hK, htr⟩ := hO
  intro H locs cells slots la hR hS h1 h2 hl
  exact lv_ldc hx hb hown (hts _ hw hg) hdg (k H locs cells slots la hR hS h1 h2 hl)
variable {l0 l1 l2 l3 l4 l5 l6 l7 l8 l9 l10 : Option Value}
theorem zr_iloadE_0 (hO : zOk G X own cc nL) {x : Int32} (hdg : decode cc pc = .ok (.iload_n 0, 1)) (k : zV G X nL bc bs S ly τ σ (pc + 1) [some (.int x), l1, l2, l3, l4, l5, l6, l7, l8, l9, l10] (.int x :: st)) : zV G X nL bc bs S ly τ σ pc [some (.int x), l1, l2, l3, l4, l5, l6, l7, l8, l9, l10] st := by
  obtain ⟨p, l, e, R, s, m, args, below, meth, c0, Q⟩ := X
  obtain ⟨hx, hb, hml, hown, hts, hlk, hK, htr⟩ := hO
  intro H locs cells slots la hR hS h1 h2 hl
  exact lv_iload_n (i := 0) hx hb hdg rfl (zLo_at hl rfl) (k H locs cells slots la hR hS h1 h2 hl)
theorem zr_aloadE_0 (hO : zOk G X own cc nL) {x : Nat} (hdg : decode cc pc = .ok (.aload_n 0, 1)) (k : zV G X nL bc bs S ly τ σ (pc + 1) [some (.ref x), l1, l2, l3, l4, l5, l6, l7, l8, l9, l10] (.ref x :: st)) : zV G X nL bc bs S ly τ σ pc [some (.ref x), l1, l2, l3, l4, l5, l6, l7, l8, l9, l10] st := by
  obtain ⟨p, l, e, R, s, m, args, below, meth, c0, Q⟩ := X
  obtain ⟨hx, hb, hml, hown, hts, hlk, hK, htr⟩ := hO
  intro H locs cells slots la hR hS h1 h2 hl
  exact lv_aload_n (i := 0) hx hb hdg rfl (zLo_at hl rfl) (k H locs cells slots la hR hS h1 h2 hl)
theorem zr_iloadE_1 (hO : zOk G X own cc nL) {x : Int32} (hdg : decode cc pc = .ok (.iload_n 1, 1)) (k : zV G X nL bc bs S ly τ σ (pc + 1) [l0, some (.int x), l2, l3, l4, l5, l6, l7, l8, l9, l10] (.int x :: st)) : zV G X nL bc bs S ly τ σ pc [l0, some (.int x), l2, l3, l4, l5, l6, l7, l8, l9, l10] st := by
  obtain ⟨p, l, e, R, s, m, args, below, meth, c0, Q⟩ := X
  obtain ⟨hx, hb, hml, hown, hts, hlk, hK, htr⟩ := hO
  intro H locs cells slots la hR hS h1 h2 hl
  exact lv_iload_n (i := 1) hx hb hdg rfl (zLo_at hl rfl) (k H locs cells slots la hR hS h1 h2 hl)
theorem zr_aloadE_1 (hO : zOk G X own cc nL) {x : Nat} (hdg : decode cc pc = .ok (.aload_n 1, 1)) (k : zV G X nL bc bs S ly τ σ (pc + 1) [l0, some (.ref x), l2, l3, l4, l5, l6, l7, l8, l9, l10] (.ref x :: st)) : zV G X nL bc bs S ly τ σ pc [l0, some (.ref x), l2, l3, l4, l5, l6, l7, l8, l9, l10] st := by
  obtain ⟨p, l, e, R, s, m, args, below, meth, c0, Q⟩ := X
  obtain ⟨hx, hb, hml, hown, hts, hlk, hK, htr⟩ := hO
  intro H locs cells slots la hR hS h1 h2 hl
  exact lv_aload_n (i := 1) hx hb hdg rfl (zLo_at hl rfl) (k H locs cells slots la hR hS h1 h2 hl)
theorem zr_iloadE_2 (hO : zOk G X own cc nL) {x : Int32} (hdg : decode cc pc = .ok (.iload_n 2, 1)) (k : zV G X nL bc bs S ly τ σ (pc + 1) [l0, l1, some (.int x), l3, l4, l5, l6, l7, l8, l9, l10] (.int x :: st)) : zV G X nL bc bs S ly τ σ pc [l0, l1, some (.int x), l3, l4, l5, l6, l7, l8, l9, l10] st := by
  obtain ⟨p, l, e, R, s, m, args, below, meth, c0, Q⟩ := X
  obtain ⟨hx, hb, hml, hown, hts, hlk, hK, htr⟩ := hO
  intro H locs cells slots la hR hS h1 h2 hl
  exact lv_iload_n (i := 2) hx hb hdg rfl (zLo_at hl rfl) (k H locs cells slots la hR hS h1 h2 hl)
theorem zr_aloadE_2 (hO : zOk G X own cc nL) {x : Nat} (hdg : decode cc pc = .ok (.aload_n 2, 1)) (k : zV G X nL bc bs S ly τ σ (pc + 1) [l0, l1, some (.ref x), l3, l4, l5, l6, l7, l8, l9, l10] (.ref x :: st)) : zV G X nL bc bs S ly τ σ pc [l0, l1, some (.ref x), l3, l4, l5, l6, l7, l8, l9, l10] st := by
  obtain ⟨p, l, e, R, s, m, args, below, meth, c0, Q⟩ := X
  obtain ⟨hx, hb, hml, hown, hts, hlk, hK, htr⟩ := hO
  intro H locs cells slots la hR hS h1 h2 hl
  exact lv_aload_n (i := 2) hx hb hdg rfl (zLo_at hl rfl) (k H locs cells slots la hR hS h1 h2 hl)
theorem zr_iloadE_3 (hO : zOk G X own cc nL) {x : Int32} (hdg : decode cc pc = .ok (.iload_n 3, 1)) (k : zV G X nL bc bs S ly τ σ (pc + 1) [l0, l1, l2, some (.int x), l4, l5, l6, l7, l8, l9, l10] (.int x :: st)) : zV G X nL bc bs S ly τ σ pc [l0, l1, l2, some (.int x), l4, l5, l6, l7, l8, l9, l10] st := by
  obtain ⟨p, l, e, R, s, m, args, below, meth, c0, Q⟩ := X
  obtain ⟨hx, hb, hml, hown, hts, hlk, hK, htr⟩ := hO
  intro H locs cells slots la hR hS h1 h2 hl
  exact lv_iload_n (i := 3) hx hb hdg rfl (zLo_at hl rfl) (k H locs cells slots la hR hS h1 h2 hl)
theorem zr_aloadE_3 (hO : zOk G X own cc nL) {x : Nat} (hdg : decode cc pc = .ok (.aload_n 3, 1)) (k : zV G X nL bc bs S ly τ σ (pc + 1) [l0, l1, l2, some (.ref x), l4, l5, l6, l7, l8, l9, l10] (.ref x :: st)) : zV G X nL bc bs S ly τ σ pc [l0, l1, l2, some (.ref x), l4, l5, l6, l7, l8, l9, l10] st := by
  obtain ⟨p, l, e, R, s, m, args, below, meth, c0, Q⟩ := X
  obtain ⟨hx, hb, hml, hown, hts, hlk, hK, htr⟩ := hO
  intro H locs cells slots la hR hS h1 h2 hl
  exact lv_aload_n (i := 3) hx hb hdg rfl (zLo_at hl rfl) (k H locs cells slots la hR hS h1 h2 hl)
theorem zr_istoreE_3 (hO : zOk G X own cc nL) {x : Int32} (hdg : decode cc pc = .ok (.istore_n 3, 1)) (hnL : 3 < nL) (hp : zc1 l2 = true) (k : zV G X nL bc bs S ly τ σ (pc + 1) [l0, l1, l2, some (.int x), l4, l5, l6, l7, l8, l9, l10] st) : zV G X nL bc bs S ly τ σ pc [l0, l1, l2, l3, l4, l5, l6, l7, l8, l9, l10] (.int x :: st) := by
  obtain ⟨p, l, e, R, s, m, args, below, meth, c0, Q⟩ := X
  obtain ⟨hx, hb, hml, hown, hts, hlk, hK, htr⟩ := hO
  intro H locs cells slots la hR hS h1 h2 hl
  exact lv_istore_n (i := 3) hx hb hdg rfl hl hnL rfl (fun la2 hl2 => k H locs cells slots la2 hR hS h1 h2 (zLo_set1 hl2 (fun j hj => by have h9 : j = 2 := (by omega); subst h9; exact hp)))
theorem zr_iloadE_4 (hO : zOk G X own cc nL) {x : Int32} (hdg : decode cc pc = .ok (.iload 4, 2)) (k : zV G X nL bc bs S ly τ σ (pc + 2) [l0, l1, l2, l3, some (.int x), l5, l6, l7, l8, l9, l10] (.int x :: st)) : zV G X nL bc bs S ly τ σ pc [l0, l1, l2, l3, some (.int x), l5, l6, l7, l8, l9, l10] st := by
  obtain ⟨p, l, e, R, s, m, args, below, meth, c0, Q⟩ := X
  obtain ⟨hx, hb, hml, hown, hts, hlk, hK, htr⟩ := hO
  intro H locs cells slots la hR hS h1 h2 hl
  exact lv_iload hx hb hdg (zLo_at hl rfl) (k H locs cells slots la hR hS h1 h2 hl)
theorem zr_istoreE_4 (hO : zOk G X own cc nL) {x : Int32} (hdg : decode cc pc = .ok (.istore 4, 2)) (hnL : 4 < nL) (hp : zc1 l3 = true) (k : zV G X nL bc bs S ly τ σ (pc + 2) [l0, l1, l2, l3, some (.int x), l5, l6, l7, l8, l9, l10] st) : zV G X nL bc bs S ly τ σ pc [l0, l1, l2, l3, l4, l5, l6, l7, l8, l9, l10] (.int x :: st) := by
  obtain ⟨p, l, e, R, s, m, args, below, meth, c0, Q⟩ := X
  obtain ⟨hx, hb, hml, hown, hts, hlk, hK, htr⟩ := hO
  intro H locs cells slots la hR hS h1 h2 hl
  exact lv_istore hx hb hdg hl hnL rfl (fun la2 hl2 => k H locs cells slots la2 hR hS h1 h2 (zLo_set1 hl2 (fun j hj => by have h9 : j = 3 := (by omega); subst h9; exact hp)))
theorem zr_iloadE_5 (hO : zOk G X own cc nL) {x : Int32} (hdg : decode cc pc = .ok (.iload 5, 2)) (k : zV G X nL bc bs S ly τ σ (pc + 2) [l0, l1, l2, l3, l4, some (.int x), l6, l7, l8, l9, l10] (.int x :: st)) : zV G X nL bc bs S ly τ σ pc [l0, l1, l2, l3, l4, some (.int x), l6, l7, l8, l9, l10] st := by
  obtain ⟨p, l, e, R, s, m, args, below, meth, c0, Q⟩ := X
  obtain ⟨hx, hb, hml, hown, hts, hlk, hK, htr⟩ := hO
  intro H locs cells slots la hR hS h1 h2 hl
  exact lv_iload hx hb hdg (zLo_at hl rfl) (k H locs cells slots la hR hS h1 h2 hl)
theorem zr_istoreE_5 (hO : zOk G X own cc nL) {x : Int32} (hdg : decode cc pc = .ok (.istore 5, 2)) (hnL : 5 < nL) (hp : zc1 l4 = true) (k : zV G X nL bc bs S ly τ σ (pc + 2) [l0, l1, l2, l3, l4, some (.int x), l6, l7, l8, l9, l10] st) : zV G X nL bc bs S ly τ σ pc [l0, l1, l2, l3, l4, l5, l6, l7, l8, l9, l10] (.int x :: st) := by
  obtain ⟨p, l, e, R, s, m, args, below, meth, c0, Q⟩ := X
  obtain ⟨hx, hb, hml, hown, hts, hlk, hK, htr⟩ := hO
  intro H locs cells slots la hR hS h1 h2 hl
  exact lv_istore hx hb hdg hl hnL rfl (fun la2 hl2 => k H locs cells slots la2 hR hS h1 h2 (zLo_set1 hl2 (fun j hj => by have h9 : j = 4 := (by omega); subst h9; exact hp)))
theorem zr_iloadE_6 (hO : zOk G X own cc nL) {x : Int32} (hdg : decode cc pc = .ok (.iload 6, 2)) (k : zV G X nL bc bs S ly τ σ (pc + 2) [l0, l1, l2, l3, l4, l5, some (.int x), l7, l8, l9, l10] (.int x :: st)) : zV G X nL bc bs S ly τ σ pc [l0, l1, l2, l3, l4, l5, some (.int x), l7, l8, l9, l10] st := by
  obtain ⟨p, l, e, R, s, m, args, below, meth, c0, Q⟩ := X
  obtain ⟨hx, hb, hml, hown, hts, hlk, hK, htr⟩ := hO
  intro H locs cells slots la hR hS h1 h2 hl
  exact lv_iload hx hb hdg (zLo_at hl rfl) (k H locs cells slots la hR hS h1 h2 hl)
theorem zr_istoreE_6 (hO : zOk G X own cc nL) {x : Int32} (hdg : decode cc pc = .ok (.istore 6, 2)) (hnL : 6 < nL) (hp : zc1 l5 = true) (k : zV G X nL bc bs S ly τ σ (pc + 2) [l0, l1, l2, l3, l4, l5, some (.int x), l7, l8, l9, l10] st) : zV G X nL bc bs S ly τ σ pc [l0, l1, l2, l3, l4, l5, l6, l7, l8, l9, l10] (.int x :: st) := by
  obtain ⟨p, l, e, R, s, m, args, below, meth, c0, Q⟩ := X
  obtain ⟨hx, hb, hml, hown, hts, hlk, hK, htr⟩ := hO
  intro H locs cells slots la hR hS h1 h2 hl
  exact lv_istore hx hb hdg hl hnL rfl (fun la2 hl2 => k H locs cells slots la2 hR hS h1 h2 (zLo_set1 hl2 (fun j hj => by have h9 : j = 5 := (by omega); subst h9; exact hp)))
theorem zr_astoreE_6 (hO : zOk G X own cc nL) {x : Nat} (hdg : decode cc pc = .ok (.astore 6, 2)) (hnL : 6 < nL) (hp : zc1 l5 = true) (k : zV G X nL bc bs S ly τ σ (pc + 2) [l0, l1, l2, l3, l4, l5, some (.ref x), l7, l8, l9, l10] st) : zV G X nL bc bs S ly τ σ pc [l0, l1, l2, l3, l4, l5, l6, l7, l8, l9, l10] (.ref x :: st) := by
  obtain ⟨p, l, e, R, s, m, args, below, meth, c0, Q⟩ := X
  obtain ⟨hx, hb, hml, hown, hts, hlk, hK, htr⟩ := hO
  intro H locs cells slots la hR hS h1 h2 hl
  exact lv_astore hx hb hdg hl hnL rfl (fun la2 hl2 => k H locs cells slots la2 hR hS h1 h2 (zLo_set1 hl2 (fun j hj => by have h9 : j = 5 := (by omega); subst h9; exact hp)))
theorem zr_iloadE_7 (hO : zOk G X own cc nL) {x : Int32} (hdg : decode cc pc = .ok (.iload 7, 2)) (k : zV G X nL bc bs S ly τ σ (pc + 2) [l0, l1, l2, l3, l4, l5, l6, some (.int x), l8, l9, l10] (.int x :: st)) : zV G X nL bc bs S ly τ σ pc [l0, l1, l2, l3, l4, l5, l6, some (.int x), l8, l9, l10] st := by
  obtain ⟨p, l, e, R, s, m, args, below, meth, c0, Q⟩ := X
  obtain ⟨hx, hb, hml, hown, hts, hlk, hK, htr⟩ := hO
  intro H locs cells slots la hR hS h1 h2 hl
  exact lv_iload hx hb hdg (zLo_at hl rfl) (k H locs cells slots la hR hS h1 h2 hl)
theorem zr_istoreE_7 (hO : zOk G X own cc nL) {x : Int32} (hdg : decode cc pc = .ok (.istore 7, 2)) (hnL : 7 < nL) (hp : zc1 l6 = true) (k : zV G X nL bc bs S ly τ σ (pc + 2) [l0, l1, l2, l3, l4, l5, l6, some (.int x), l8, l9, l10] st) : zV G X nL bc bs S ly τ σ pc [l0, l1, l2, l3, l4, l5, l6, l7, l8, l9, l10] (.int x :: st) := by
  obtain ⟨p, l, e, R, s, m, args, below, meth, c0, Q⟩ := X
  obtain ⟨hx, hb, hml, hown, hts, hlk, hK, htr⟩ := hO
  intro H locs cells slots la hR hS h1 h2 hl
  exact lv_istore hx hb hdg hl hnL rfl (fun la2 hl2 => k H locs cells slots la2 hR hS h1 h2 (zLo_set1 hl2 (fun j hj => by have h9 : j = 6 := (by omega); subst h9; exact hp)))
theorem zr_iloadE_8 (hO : zOk G X own cc nL) {x : Int32} (hdg : decode cc pc = .ok (.iload 8, 2)) (k : zV G X nL bc bs S ly τ σ (pc + 2) [l0, l1, l2, l3, l4, l5, l6, l7, some (.int x), l9, l10] (.int x :: st)) : zV G X nL bc bs S ly τ σ pc [l0, l1, l2, l3, l4, l5, l6, l7, some (.int x), l9, l10] st := by
  obtain ⟨p, l, e, R, s, m, args, below, meth, c0, Q⟩ := X
  obtain ⟨hx, hb, hml, hown, hts, hlk, hK, htr⟩ := hO
  intro H locs cells slots la hR hS h1 h2 hl
  exact lv_iload hx hb hdg (zLo_at hl rfl) (k H locs cells slots la hR hS h1 h2 hl)
theorem zr_istoreE_8 (hO : zOk G X own cc nL) {x : Int32} (hdg : decode cc pc = .ok (.istore 8, 2)) (hnL : 8 < nL) (hp : zc1 l7 = true) (k : zV G X nL bc bs S ly τ σ (pc + 2) [l0, l1, l2, l3, l4, l5, l6, l7, some (.int x), l9, l10] st) : zV G X nL bc bs S ly τ σ pc [l0, l1, l2, l3, l4, l5, l6, l7, l8, l9, l10] (.int x :: st) := by
  obtain ⟨p, l, e, R, s, m, args, below, meth, c0, Q⟩ := X
  obtain ⟨hx, hb, hml, hown, hts, hlk, hK, htr⟩ := hO
  intro H locs cells slots la hR hS h1 h2 hl
  exact lv_istore hx hb hdg hl hnL rfl (fun la2 hl2 => k H locs cells slots la2 hR hS h1 h2 (zLo_set1 hl2 (fun j hj => by have h9 : j = 7 := (by omega); subst h9; exact hp)))
theorem zr_iloadE_9 (hO : zOk G X own cc nL) {x : Int32} (hdg : decode cc pc = .ok (.iload 9, 2)) (k : zV G X nL bc bs S ly τ σ (pc + 2) [l0, l1, l2, l3, l4, l5, l6, l7, l8, some (.int x), l10] (.int x :: st)) : zV G X nL bc bs S ly τ σ pc [l0, l1, l2, l3, l4, l5, l6, l7, l8, some (.int x), l10] st := by
  obtain ⟨p, l, e, R, s, m, args, below, meth, c0, Q⟩ := X
  obtain ⟨hx, hb, hml, hown, hts, hlk, hK, htr⟩ := hO
  intro H locs cells slots la hR hS h1 h2 hl
  exact lv_iload hx hb hdg (zLo_at hl rfl) (k H locs cells slots la hR hS h1 h2 hl)
theorem zr_istoreE_9 (hO : zOk G X own cc nL) {x : Int32} (hdg : decode cc pc = .ok (.istore 9, 2)) (hnL : 9 < nL) (hp : zc1 l8 = true) (k : zV G X nL bc bs S ly τ σ (pc + 2) [l0, l1, l2, l3, l4, l5, l6, l7, l8, some (.int x), l10] st) : zV G X nL bc bs S ly τ σ pc [l0, l1, l2, l3, l4, l5, l6, l7, l8, l9, l10] (.int x :: st) := by
  obtain ⟨p, l, e, R, s, m, args, below, meth, c0, Q⟩ := X
  obtain ⟨hx, hb, hml, hown, hts, hlk, hK, htr⟩ := hO
  intro H locs cells slots la hR hS h1 h2 hl
  exact lv_istore hx hb hdg hl hnL rfl (fun la2 hl2 => k H locs cells slots la2 hR hS h1 h2 (zLo_set1 hl2 (fun j hj => by have h9 : j = 8 := (by omega); subst h9; exact hp)))
theorem zr_iloadE_10 (hO : zOk G X own cc nL) {x : Int32} (hdg : decode cc pc = .ok (.iload 10, 2)) (k : zV G X nL bc bs S ly τ σ (pc + 2) [l0, l1, l2, l3, l4, l5, l6, l7, l8, l9, some (.int x)] (.int x :: st)) : zV G X nL bc bs S ly τ σ pc [l0, l1, l2, l3, l4, l5, l6, l7, l8, l9, some (.int x)] st := by
  obtain ⟨p, l, e, R, s, m, args, below, meth, c0, Q⟩ := X
  obtain ⟨hx, hb, hml, hown, hts, hlk, hK, htr⟩ := hO
  intro H locs cells slots la hR hS h1 h2 hl
  exact lv_iload hx hb hdg (zLo_at hl rfl) (k H locs cells slots la hR hS h1 h2 hl)
theorem zr_istoreE_10 (hO : zOk G X own cc nL) {x : Int32} (hdg : decode cc pc = .ok (.istore 10, 2)) (hnL : 10 < nL) (hp : zc1 l9 = true) (k : zV G X nL bc bs S ly τ σ (pc + 2) [l0, l1, l2, l3, l4, l5, l6, l7, l8, l9, some (.int x)] st) : zV G X nL bc bs S ly τ σ pc [l0, l1, l2, l3, l4, l5, l6, l7, l8, l9, l10] (.int x :: st) := by
  obtain ⟨p, l, e, R, s, m, args, below, meth, c0, Q⟩ := X
  obtain ⟨hx, hb, hml, hown, hts, hlk, hK, htr⟩ := hO
  intro H locs cells slots la hR hS h1 h2 hl
  exact lv_istore hx hb hdg hl hnL rfl (fun la2 hl2 => k H locs cells slots la2 hR hS h1 h2 (zLo_set1 hl2 (fun j hj => by have h9 : j = 9 := (by omega); subst h9; exact hp)))
end ZLR
theorem zcn_7 : (Jvm.Cond.constant RL 7 2147483647) ∈ lw_tbl := by decide +kernel
theorem zcn_8 : (Jvm.Cond.constant RL 8 790386105) ∈ lw_tbl := by decide +kernel
theorem modk {t : Int32} (h0 : 0 ≤ t.toInt) {k : Nat} (hk : 1 ≤ k) (hk2 : k ≤ 100) : t - t / nI k * nI k = nI (ix t % k) := by
  have h1 := zrng t
  have ek : (nI k).toInt = k := nI_toInt (by omega)
  have hd : (t / nI k).toInt = t.toInt / k := by
    rw [Int32.toInt_div, ek, Int.tdiv_eq_ediv_of_nonneg h0]
    have a1 : 0 ≤ t.toInt / (k : Int) := Int.ediv_nonneg h0 (by omega)
    have a2 : t.toInt / (k : Int) ≤ t.toInt := Int.ediv_le_self _ h0
    exact Int.bmod_eq_of_le (by omega) (by omega)
  have b1 : t.toInt / (k : Int) * k ≤ t.toInt := Int.ediv_mul_le _ (by omega)
  have b0 : 0 ≤ t.toInt / (k : Int) * k := Int.mul_nonneg (Int.ediv_nonneg h0 (by omega)) (by omega)
  have hm : (t / nI k * nI k).toInt = t.toInt / k * k := by
    rw [Int32.toInt_mul, hd, ek]
    exact Int.bmod_eq_of_le (by omega) (by omega)
  have hs : (t - t / nI k * nI k).toInt = t.toInt - t.toInt / k * k := by
    rw [fb_subI (by rw [hm]; omega) (by rw [hm]; omega), hm]
  have h2 := ztoInt h0
  have hlt := Nat.mod_lt (ix t) hk
  apply Int32.toInt_inj.mp
  rw [hs, nI_toInt (by omega), ← h2, ← Int.natCast_ediv, ← Int.natCast_mul]
  have e := Nat.div_add_mod (ix t) k
  rw [Nat.mul_comm] at e
  generalize ix t / k * k = m at e ⊢
  omega
theorem and_pos (v : Int32) : 0 ≤ (v &&& 2147483647).toInt := by
  have h : (v &&& 2147483647).toBitVec.toNat ≤ 2147483647 := by
    rw [Int32.toBitVec_and, BitVec.toNat_and]
    exact Nat.le_trans Nat.and_le_right (by decide)
  have e : (v &&& 2147483647).toInt = (v &&& 2147483647).toBitVec.toInt := rfl
  rw [e, BitVec.toInt_eq_toNat_of_lt (by omega)]
  omega
def bel (v : Int32) (k : Nat) : Nat := ix (v &&& 2147483647) % k
theorem bel_lt (v : Int32) {k : Nat} (hk : 1 ≤ k) : bel v k < k := Nat.mod_lt _ hk
theorem e_L_below {l : Launch} {G : zGm} {d n k : Nat} {ly : zLy} {τ : zTu} {σ : zSg} {v : Int32} (htr : l.stackTraces = false) (hk : 1 ≤ k) (hk2 : k ≤ 100) : zEv l G d 0 0 (yL_below, cL_below, 2, some .int) [.int v, .int (nI k)] (fun z => n ≤ z) ly τ σ (zPl n ly τ σ (some (.int (nI (bel v k))))) := by
  refine zEv_of (ls := [some (.int v), some (.int (nI k)), none, none, none, none, none, none, none]) htr (by decide) (Nat.le_of_ble_eq_true rfl) rfl (fun X hO hE hN hRm hL hNm => ?_)
  have hO : zOk G X RL cL_below 2 := hO
  refine zr_iload_0 hO dL_below_0 ?_
  refine zr_ldc hO zcn_7 rfl dL_below_1 ?_
  refine zr_iand hO dL_below_3 ?_
  refine zr_iload_1 hO dL_below_4 ?_
  refine zr_irem hO dL_below_5 (fun e => by have := nI_inj (a := k) (b := 0); have e9 := congrArg Int32.toInt e; rw [nI_toInt (by omega), show (0 : Int32).toInt = 0 from rfl] at e9; omega) ?_
  rw [modk (and_pos v) hk hk2]
  exact zr_ireturn hO hE dL_below_6 (fun z hz => ⟨rfl, hz, rfl, rfl, rfl⟩)
def celv (G : zGm) (k : Nat) : Int32 := if k < G.2.2.2.2.1 then G.2.2.2.2.2 k else 790386105 * (nI k + 3)
theorem e_L_cell {l : Launch} {G : zGm} {d n k : Nat} {ly : zLy} {τ : zTu} {σ : zSg} (htr : l.stackTraces = false) (hk : k < 1000) (hLL : G.2.2.2.2.1 ≤ 260) : zEv l G d 0 0 (yL_cell, cL_cell, 2, some .int) [.ref G.2.2.2.1, .int (nI k)] (fun z => n ≤ z) ly τ σ (zPl n ly τ σ (some (.int (celv G k)))) := by
  refine zEv_of (ls := [some (.ref G.2.2.2.1), some (.int (nI k)), none, none, none, none, none, none, none]) htr (by decide) (Nat.le_of_ble_eq_true rfl) rfl (fun X hO hE hN hRm hL hNm => ?_)
  have hO : zOk G X RL cL_cell 2 := hO
  refine zr_iload_1 hO dL_cell_0 ?_
  refine zr_aload_0 hO dL_cell_1 ?_
  refine zr_slen hO dL_cell_2 ?_
  have eL : (Int32.ofNat G.2.2.2.2.1).toInt = G.2.2.2.2.1 := nI_toInt (by omega)
  refine zr_icmp_ge (tgt := 12) hO dL_cell_3 (by decide) (fun c => ?_) (fun c => ?_)
  · rw [i_lt, nI_toInt (by omega), eL] at c
    refine zr_ldc hO zcn_8 rfl dL_cell_12 ?_
    refine zr_iload_1 hO dL_cell_14 ?_
    refine zr_iconst (v := 3) hO dL_cell_15 (by decide) ?_
    refine zr_iadd hO dL_cell_16 ?_
    refine zr_imul hO dL_cell_17 ?_
    exact zr_ireturn hO hE dL_cell_18 (fun z hz => ⟨by unfold celv; rw [if_neg (by omega)], hz, rfl, rfl, rfl⟩)
  · rw [i_lt, nI_toInt (by omega), eL] at c
    refine zr_aload_0 hO dL_cell_6 ?_
    refine zr_iload_1 hO dL_cell_7 ?_
    refine zr_sld hO (vp_in_nI (show k < G.2.2.2.2.1 by omega) (show G.2.2.2.2.1 < 2147483648 by omega)) dL_cell_8 ?_
    rw [zix (by omega)]
    refine zr_goto (tgt := 18) hO dL_cell_9 (by decide) ?_
    exact zr_ireturn hO hE dL_cell_18 (fun z hz => ⟨by unfold celv; rw [if_pos (by omega)], hz, rfl, rfl, rfl⟩)
def st2 (σ : zSg) (x : Nat) (A B : zSg) : zSg := zwr (zwr σ (x + 1) 95 A) (x + 96) 95 B
theorem st2_A (σ : zSg) (x : Nat) (A B : zSg) : st2 σ x A B = zwr (zwr σ (x + 96) 95 B) (x + 1) 95 A := by
  unfold st2
  rw [zwr_comm _ A B (by omega)]
/-- a frame of the law, and the class's object -/
def zLw (G : zGm) (X : zCx) (l : Launch) (D : Nat) (cc : ByteArray) (nL : Nat) (ly : zLy) (x : Nat) : Prop :=
  (zOk G X RL cc nL ∧ zRm X D ∧ zLn X l ∧ 11 ≤ D ∧ l.stackTraces = false) ∧ (ly x = (6 + 5, 2, zcr6 (x + 1) (x + 96)) ∧ zC ly (x + 1) ∧ zC ly (x + 96)) ∧ G.2.2.2.2.1 ≤ 260
section ZAB
variable {G : zGm} {X : zCx} {l : Launch} {D : Nat} {cc : ByteArray} {nL bc bs N x pc : Nat} {ly : zLy} {τ : zTu} {σ : zSg} {ls : List (Option Value)} {st : List Value}
theorem a_below {v : Int32} {k : Nat} (H : zLw G X l D cc nL ly x) (hk : 1 ≤ k) (hk2 : k ≤ 100) (hcat : (st.map fun v => v.category).sum ≤ 8) (hdg : decode cc pc = .ok (.invokestatic 15, 3)) (kk : ∀ r, r < k → zV G X nL bc bs (fun z => N ≤ z) ly τ σ (pc + 3) ls (.int (nI r) :: st)) : zV G X nL bc bs (fun z => N ≤ z) ly τ σ pc ls (.int (nI k) :: .int v :: st) := by
  obtain ⟨⟨hO, hRm, hL, hD, htr⟩, -, -⟩ := H
  exact zr_S2 (D := D) hO hRm hL (by omega) (by decide) rfl (e_L_below (d := D - 1) htr hk hk2) zl_L_15 zt_L_below zc_L_below zn_L zd_L_below hcat hdg (Nat.zero_le _) (Nat.zero_le _) (kk _ (bel_lt v hk))
theorem a_cell {k : Nat} (H : zLw G X l D cc nL ly x) (hk : k < 1000) (hcat : (st.map fun v => v.category).sum ≤ 8) (hdg : decode cc pc = .ok (.invokestatic 9, 3)) (kk : ∀ v, zV G X nL bc bs (fun z => N ≤ z) ly τ σ (pc + 3) ls (.int v :: st)) : zV G X nL bc bs (fun z => N ≤ z) ly τ σ pc ls (.int (nI k) :: .ref G.2.2.2.1 :: st) := by
  obtain ⟨⟨hO, hRm, hL, hD, htr⟩, -, hLL⟩ := H
  exact zr_S2 (D := D) hO hRm hL (by omega) (by decide) rfl (e_L_cell (d := D - 1) htr hk hLL) zl_L_9 zt_L_cell zc_L_cell zn_L zd_L_cell hcat hdg (Nat.zero_le _) (Nat.zero_le _) (kk _)
end ZAB
