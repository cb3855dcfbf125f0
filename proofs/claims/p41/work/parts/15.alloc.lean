/-! What makes cells: arrays, objects, copies; what throws -/
def zrow (σ : zSg) (q : Nat) (f : Nat → Int32) : zSg := fun a => if a = q then f else σ a
def zrowL (τ : zTu) (q : Nat) (f : Nat → Int64) : zTu := fun a => if a = q then f else τ a
theorem zrow_eq (σ : zSg) (q : Nat) (f : Nat → Int32) : zrow σ q f q = f := by simp [zrow]
theorem zrow_ne (σ : zSg) {q x : Nat} (f : Nat → Int32) (h : x ≠ q) : zrow σ q f x = σ x := by simp [zrow, h]
theorem zrowL_eq (τ : zTu) (q : Nat) (f : Nat → Int64) : zrowL τ q f q = f := by simp [zrowL]
theorem zrowL_ne (τ : zTu) {q x : Nat} (f : Nat → Int64) (h : x ≠ q) : zrowL τ q f x = τ x := by simp [zrowL, h]
theorem zRA_one {U : State} {c1 c2 : ClassId} {t : FieldType} (h1 : va_RA U c1 t) (h2 : U.vm.findClass ("[" ++ t.toString) = some c2) (ht : ∀ C, t ≠ .object C) : c1 = c2 := by
  cases t with
  | object C => exact absurd rfl (ht C)
  | _ => exact Option.some.inj ((show U.vm.findClass _ = some c1 from h1).symm.trans h2)
theorem zRA_obj {U : State} {c1 c2 : ClassId} {C : String} (h1 : va_RA U c1 (.object C)) (h2 : U.vm.findClass ("[" ++ (FieldType.object C).toString) = some c2) : c1 = c2 := by
  obtain ⟨k, comp, -, -, -, h⟩ := h1
  exact Option.some.inj (h.symm.trans h2)
theorem zS_push {A : Nat → Prop} {H0 H H1 : Heap} {locs : List Loc} (hS : va_S A H0 H locs) (hz : H.size ≤ H1.size) (ho : ∀ q : Nat, q < H.size → H1[q]? = H[q]?) : va_S A H0 H1 locs :=
  ⟨Nat.le_trans hS.1 hz, fun x h1 h2 => (ho x (Nat.lt_of_lt_of_le h1 hS.1)).trans (hS.2.1 x h1 h2), hS.2.2⟩
theorem zac_int : (Cond.arrayClass .int) ∈ lw_tbl := List.mem_of_getElem? (i := 92) (by decide +kernel)
section ZJ
variable {G : zGm} {X : zCx} {own : String} {cc : ByteArray} {nL bc bs : Nat} {S : Nat → Prop} {ly : zLy} {τ : zTu} {σ : zSg} {pc : Nat} {ls : List (Option Value)} {st : List Value} {post : zPost}
theorem zr_newI (hO : zOk G X own cc nL) {n : Int32} {N : Nat} (hn : ¬ n < 0) (hN : ix n = N) (hNb : N ≤ 1000) (hb1 : 1 ≤ bc) (hb2 : N ≤ bs) (hdg : decode cc pc = .ok (.newarray .int, 2))
    (kk : ∀ q, S q → zV G X nL (bc - 1) (bs - N) (fun z => z = q + 1) (zlk ly q (1, N, znr)) τ (zrow σ q (fun _ => 0)) (pc + 2) ls (.ref q :: st)) : zV G X nL bc bs S ly τ σ pc ls (.int n :: st) := by
  obtain ⟨p, l, e, R, s, m, args, below, meth, c0, Q⟩ := X
  obtain ⟨hx, hb, hml, hown, hts, hlk, hK, htr⟩ := hO
  intro H locs cells slots la hR hS h1 h2 hl
  refine va_newaK (atype := .int) hx hb (hts _ zac_int rfl) rfl hdg rfl hn hN (by show N * 4 ≤ 536870912; omega) (by omega) (by omega) rfl fun H1 cA e1 z1 o1 hAr hNm => ?_
  have hca : G.2.1.1 = cA := zRA_one (hK.1.2 0 _ rfl).2 hNm (fun C h => by cases h)
  subst hca
  refine kk H.size hR.1 H1 locs (cells + 1) (slots + N) la (zR_push hR (Nat.le_trans hK.2.1 hS.1) (e1 := .inl (G.2.1.1, N, .inl (fun _ => 0))) ?_ z1 ?_ o1 (fun x hx => ⟨zlk_ne ly _ hx, zrow_ne σ _ hx, rfl⟩)) (zS_push hS (by omega) o1) (by omega) (by omega) hl
  · rw [zlk_eq, zrow_eq]; rfl
  · show H1[H.size]? = some (vp_cell _ _)
    rw [vp_cell_i]
    exact e1
/-- a row of references, all null: Task[] -/
theorem zr_newT (hO : zOk G X own cc nL) {n : Int32} {N index : Nat} (hw : Cond.classLink own index RX4 ∈ lw_tbl) (hn : ¬ n < 0) (hN : ix n = N) (hNb : N ≤ 1000) (hb1 : 1 ≤ bc) (hb2 : N ≤ bs) (hdg : decode cc pc = .ok (.anewarray index, 3))
    (kk : ∀ q, S q → zV G X nL (bc - 1) (bs - N) (fun z => z = q + 1) (zlk ly q (4, N, znr)) τ σ (pc + 3) ls (.ref q :: st)) : zV G X nL bc bs S ly τ σ pc ls (.int n :: st) := by
  obtain ⟨p, l, e, R, s, m, args, below, meth, c0, Q⟩ := X
  obtain ⟨hx, hb, hml, hown, hts, hlk, hK, htr⟩ := hO
  intro H locs cells slots la hR hS h1 h2 hl
  subst hN
  refine W.anew hx hb hown (hts _ hw rfl) (va_AO.use hK.2.2.2.2.2.2.2.1) rfl hdg rfl hn (by show n.toNatClampNeg * 4 ≤ _; have : n.toNatClampNeg ≤ 1000 := hNb; omega) (by omega) (by show slots + ix n ≤ _; omega) fun cA kA comp f1 f2 f3 f4 => ?_
  have hca : G.2.1.2.2.2 = cA := zRA_obj (hK.1.2 3 _ rfl).2 f1
  subst hca
  generalize hH1 : H.push ({ cls := G.2.1.2.2.2, slots := Array.replicate n.toNatClampNeg .null, vm := .none } : Cell) = H1
  have z1 : H1.size = H.size + 1 := by rw [← hH1, Array.size_push]
  have e1 : H1[H.size]? = some (arrV G.2.1.2.2.2 n.toNatClampNeg (fun _ => .null)) := by rw [← hH1, Array.getElem?_push_size, ← arrV_new]
  have o1 : ∀ q : Nat, q < H.size → H1[q]? = H[q]? := fun q hq => by rw [← hH1, Array.getElem?_push, if_neg (Nat.ne_of_lt hq)]
  refine kk H.size hR.1 H1 locs (cells + 1) (slots + ix n) la (zR_push hR (Nat.le_trans hK.2.1 hS.1) (e1 := .inl (G.2.1.2.2.2, ix n, .inr (.inr (.inr (.inr znr))))) ?_ z1 ?_ o1 (fun x hx => ⟨zlk_ne ly _ hx, rfl, rfl⟩)) (zS_push hS (by omega) o1) (by omega) (by omega) hl
  · rw [zlk_eq]; rfl
  · show H1[H.size]? = some (vp_cell _ _)
    rw [vp_cell_q]
    exact e1
/-- a row of int[]: all null -/
theorem zr_newII (hO : zOk G X own cc nL) {n : Int32} {N index : Nat} (hw : Cond.classLink own index (FieldType.array .int).toString ∈ lw_tbl) (hn : ¬ n < 0) (hN : ix n = N) (hNb : N ≤ 1000) (hb1 : 1 ≤ bc) (hb2 : N ≤ bs) (hdg : decode cc pc = .ok (.anewarray index, 3))
    (kk : ∀ q, S q → zV G X nL (bc - 1) (bs - N) (fun z => z = q + 1) (zlk ly q (3, N, znr)) τ σ (pc + 3) ls (.ref q :: st)) : zV G X nL bc bs S ly τ σ pc ls (.int n :: st) := by
  obtain ⟨p, l, e, R, s, m, args, below, meth, c0, Q⟩ := X
  obtain ⟨hx, hb, hml, hown, hts, hlk, hK, htr⟩ := hO
  intro H locs cells slots la hR hS h1 h2 hl
  subst hN
  refine W.anewA (t := .int) hx hb hown (hts _ hw rfl) hK.2.2.2.2.2.2.2.2.1 rfl hdg rfl hn (by show n.toNatClampNeg * 4 ≤ _; have : n.toNatClampNeg ≤ 1000 := hNb; omega) (by omega) (by show slots + ix n ≤ _; omega) fun cA kA comp f1 f2 f3 f4 => ?_
  have hca : G.2.1.2.2.1 = cA := zRA_one (hK.1.2 2 _ rfl).2 f1 (fun C h => by cases h)
  subst hca
  generalize hH1 : H.push ({ cls := G.2.1.2.2.1, slots := Array.replicate n.toNatClampNeg .null, vm := .none } : Cell) = H1
  have z1 : H1.size = H.size + 1 := by rw [← hH1, Array.size_push]
  have e1 : H1[H.size]? = some (arrV G.2.1.2.2.1 n.toNatClampNeg (fun _ => .null)) := by rw [← hH1, Array.getElem?_push_size, ← arrV_new]
  have o1 : ∀ q : Nat, q < H.size → H1[q]? = H[q]? := fun q hq => by rw [← hH1, Array.getElem?_push, if_neg (Nat.ne_of_lt hq)]
  refine kk H.size hR.1 H1 locs (cells + 1) (slots + ix n) la (zR_push hR (Nat.le_trans hK.2.1 hS.1) (e1 := .inl (G.2.1.2.2.1, ix n, .inr (.inr (.inr (.inr znr))))) ?_ z1 ?_ o1 (fun x hx => ⟨zlk_ne ly _ hx, rfl, rfl⟩)) (zS_push hS (by omega) o1) (by omega) (by omega) hl
  · rw [zlk_eq]; rfl
  · show H1[H.size]? = some (vp_cell _ _)
    rw [vp_cell_q]
    exact e1
/-- an int[] goes into a row of int[] -/
theorem zr_aastI (hO : zOk G X own cc nL) {a n r n' : Nat} {rf rf' : Nat → Option Nat} (hly : ly a = (3, n, rf)) (hlr : ly r = (1, n', rf')) {i : Int32} (hin : vp_in i n) (hdg : decode cc pc = .ok (.aastore, 1)) (kk : zV G X nL bc bs S (zlk ly a (3, n, zrf rf (ix i) (some r))) τ σ (pc + 1) ls st) : zV G X nL bc bs S ly τ σ pc ls (.ref r :: .int i :: .ref a :: st) := by
  obtain ⟨p, l, e, R, s, m, args, below, meth, c0, Q⟩ := X
  obtain ⟨hx, hb, hml, hown, hts, hlk, hK, htr⟩ := hO
  intro H locs cells slots la hR hS h1 h2 hl
  have he : zcell G (ly a) (σ a) (τ a) = some (.inl (G.2.1.2.2.1, n, .inr (.inr (.inr (.inr rf))))) := by rw [hly]; rfl
  have he' : zcell G (zlk ly a (3, n, zrf rf (ix i) (some r)) a) (σ a) (τ a) = some (.inl (G.2.1.2.2.1, n, .inr (.inr (.inr (.inr (zrf rf (ix i) (some r))))))) := by rw [zlk_eq]; rfl
  have hev : zcell G (ly r) (σ r) (τ r) = some (.inl (G.2.1.1, n', .inl (σ r))) := by rw [hlr]; rfl
  have hba := (hR.2 a _ he).1
  have hat : H[a]? = some (vp_cell G.2.1.2.2.1 (n, .inr (.inr (.inr (.inr rf))))) := (hR.2 a _ he).2
  have hav : H[r]? = some (vp_cell G.2.1.1 (n', .inl (σ r))) := (hR.2 r _ hev).2
  have hlt : i.toNatClampNeg < n := Nat.not_le.mp fun q => hin (Or.inr q)
  have h0 : ¬ i < 0 := fun q => hin (Or.inl q)
  obtain ⟨comp, cA2, kA, q1, -, q3, q4, q5⟩ := arrayOver_specB hK.2.2.2.2.2.2.2.2.1
  have hca : G.2.1.2.2.1 = cA2 := zRA_one (hK.1.2 2 _ rfl).2 q5 (fun C h => by cases h)
  subst hca
  have hci : G.2.1.1 = comp := by
    have h9 : s.vm.findClass ("[" ++ FieldType.int.toString) = some G.2.1.1 := (hK.1.2 0 _ rfl).2
    have e9 : "[" ++ FieldType.int.toString = (FieldType.array .int).toString := by decide +kernel
    rw [e9, q1] at h9
    exact (Option.some.inj h9).symm
  subst hci
  obtain ⟨-, kI, hkI, cmI, hkkI⟩ := (hK.1.2 0 _ rfl).1 n' (fun j => .int (σ r j))
  refine W.aast hx hb hat (fun q h => by cases h) (fun h => by cases h) q3 q4 rfl hkI ⟨h0, by show _ < (arrV _ _ _).slots.size; rw [arrV_size]; exact hlt⟩ hav (fun q h => by cases h) hkI (va_asg _ _) rfl rfl hdg fun H1 e z oq => ?_
  refine kk H1 _ cells slots la (zR_set hR he he' z ?_ oq (fun x hx => ⟨zlk_ne ly _ hx, rfl, rfl⟩)) (hS.put z oq hba) h1 h2 hl
  show H1[a]? = some (vp_cell _ _)
  rw [e, vp_cell_q, vp_cell_q, arrV_store]
  congr 2
  funext q
  by_cases hq : q = i.toNatClampNeg
  · subst hq
    simp [updV, zrf, va_rf]
  · simp [updV, zrf, hq]
/-- new C: all its ints 0, its references null -/
theorem zr_new (hO : zOk G X own cc nL) {index c : Nat} (hc : c < 8) (hw1 : Cond.classLink own index (zRn c) ∈ lw_tbl) (hw2 : Cond.instantiable (zRn c) (zN c) ∈ lw_tbl) (hw3 : Cond.initialized (zRn c) ∈ lw_tbl) (hb1 : 1 ≤ bc) (hb2 : zN c ≤ bs) (hdg : decode cc pc = .ok (.new index, 3))
    (kk : ∀ q, S q → zV G X nL (bc - 1) (bs - zN c) (fun z => z = q + 1) (zlk ly q (c + 5, zN c, znr)) (zrowL τ q (fun _ => 0)) (zrow σ q (fun _ => 0)) (pc + 3) ls (.ref q :: st)) : zV G X nL bc bs S ly τ σ pc ls st := by
  obtain ⟨p, l, e, R, s, m, args, below, meth, c0, Q⟩ := X
  obtain ⟨hx, hb, hml, hown, hts, hlk, hK, htr⟩ := hO
  intro H locs cells slots la hR hS h1 h2 hl
  have hh := zhts hts hc
  have hcl := zcl_at hc
  have hKn := hK.1.1 c _ hcl
  refine W.newcK hx hb hown (hts _ hw1 rfl) (hts _ hw2 rfl) (hts _ hw3 rfl) rfl hdg (by omega) (by omega) hKn.2.1 rfl fun H1 kC hkC e1 z1 o1 => ?_
  refine kk H.size hR.1 H1 locs (cells + 1) (slots + zN c) la (zR_push hR (Nat.le_trans hK.2.1 hS.1) (e1 := .inr (c, zfs c (fun _ => 0) (fun _ => 0) znr)) ?_ z1 ?_ o1 (fun x hx => ⟨zlk_ne ly _ hx, zrow_ne σ _ hx, zrowL_ne τ _ hx⟩)) (zS_push hS (by omega) o1) (by omega) (by omega) hl
  · rw [zlk_eq, zrow_eq, zrowL_eq]; rfl
  · refine ⟨_, hcl, (u_born (zty c) hh (fun w h => h) hKn hkC e1 (zty_ok hc)).to (fun k hk => ?_)⟩
    have h9 := zfs_at hk (fun _ => 0) (fun _ => 0) znr
    unfold vp_V
    rw [List.getD_eq_getElem?_getD, h9]
    have : ∀ t : FieldType, (t = .int ∨ t = .long ∨ zisr t = true ∧ defaultValue t = .null) → defaultValue t = zfv t 0 0 none := by
      intro t ht
      rcases ht with rfl | rfl | ⟨h8, h7⟩
      · rfl
      · rfl
      · rw [zfv_r h8, h7]; rfl
    refine this _ ?_
    have hall : ∀ c, c < 8 → ∀ k, k < zN c → (zty c k = .int ∨ zty c k = .long ∨ zisr (zty c k) = true ∧ defaultValue (zty c k) = .null) := by
      intro c hc
      match c, hc with
      | 0, _ => exact (by decide +kernel : ∀ k, k < 13 → (tyX0 k = .int ∨ tyX0 k = .long ∨ zisr (tyX0 k) = true ∧ defaultValue (tyX0 k) = .null))
      | 1, _ => exact (by decide +kernel : ∀ k, k < 4 → (tyX1 k = .int ∨ tyX1 k = .long ∨ zisr (tyX1 k) = true ∧ defaultValue (tyX1 k) = .null))
      | 2, _ => exact (by decide +kernel : ∀ k, k < 6 → (tyX2 k = .int ∨ tyX2 k = .long ∨ zisr (tyX2 k) = true ∧ defaultValue (tyX2 k) = .null))
      | 3, _ => exact (by decide +kernel : ∀ k, k < 5 → (tyX3 k = .int ∨ tyX3 k = .long ∨ zisr (tyX3 k) = true ∧ defaultValue (tyX3 k) = .null))
      | 4, _ => exact (by decide +kernel : ∀ k, k < 16 → (tyX4 k = .int ∨ tyX4 k = .long ∨ zisr (tyX4 k) = true ∧ defaultValue (tyX4 k) = .null))
      | 5, _ => exact (by decide +kernel : ∀ k, k < 4 → (tyX5 k = .int ∨ tyX5 k = .long ∨ zisr (tyX5 k) = true ∧ defaultValue (tyX5 k) = .null))
      | 6, _ => exact (by decide +kernel : ∀ k, k < 2 → (tyX6 k = .int ∨ tyX6 k = .long ∨ zisr (tyX6 k) = true ∧ defaultValue (tyX6 k) = .null))
      | 7, _ => exact (by decide +kernel : ∀ k, k < 2 → (tyX6 k = .int ∨ tyX6 k = .long ∨ zisr (tyX6 k) = true ∧ defaultValue (tyX6 k) = .null))
      | n + 8, h => exact absurd h (by omega)
    exact hall c hc k hk
/-- Object.<init>: nothing -/
theorem zr_objInit (hO : zOk G X own cc nL) {D index a : Nat} (hd : 1 ≤ D) (hRm : zRm X D) (hw : Cond.methodLink own index objectInit ∈ lw_tbl) (hcat : (st.map fun v => v.category).sum ≤ 8) (hdg : decode cc pc = .ok (.invokespecial index, 3)) (kk : zV G X nL bc bs S ly τ σ (pc + 3) ls st) : zV G X nL bc bs S ly τ σ pc ls (.ref a :: st) := by
  obtain ⟨p, l, e, R, s, m, args, below, meth, c0, Q⟩ := X
  obtain ⟨hx, hb, hml, hown, hts, hlk, hK, htr⟩ := hO
  intro H locs cells slots la hR hS h1 h2 hl
  obtain ⟨hr1, hr2⟩ := hRm
  exact W.objInit hx hb hown (hts _ hw rfl) (hts _ zq_oi_inst rfl) (hts _ zq_oi_code rfl) rfl (hl.1.trans hml.symm) rfl hdg (by omega) (by show 2 * 0 + _ + 12 ≤ _; omega) (kk H locs cells slots la hR hS h1 h2 hl)
end ZJ
