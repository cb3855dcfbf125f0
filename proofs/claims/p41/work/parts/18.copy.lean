/-! System.arraycopy of ints, clone of an int[], new int[n][m] -/
theorem zouter (c : ClassId) (N h0 : Nat) : ∀ i : Nat, Jvm.Free.Multi.outerC c N h0 i = arrV c N (fun j => va_rf (if j < i then some (h0 + 1 + j) else none))
  | 0 => by
    show ({ cls := c, slots := Array.replicate N .null, vm := .none } : Cell) = _
    rw [arrV_new]
    refine congrArg (arrV c N) (funext fun j => ?_)
    simp [va_rf]
  | i + 1 => by
    show (Jvm.Free.Multi.outerC c N h0 i).setSlot i (.ref (h0 + 1 + i)) = _
    rw [zouter c N h0 i, arrV_store]
    refine congrArg (arrV c N) (funext fun j => ?_)
    by_cases e : j = i
    · subst e
      simp [updV, va_rf]
    · by_cases h : j < i
      · simp [updV, e, h, Nat.lt_succ_of_lt h]
      · simp [updV, e, h, show ¬ j < i + 1 by omega]
section ZL
variable {G : zGm} {X : zCx} {own : String} {cc : ByteArray} {nL bc bs : Nat} {S : Nat → Prop} {ly : zLy} {τ : zTu} {σ : zSg} {pc : Nat} {ls : List (Option Value)} {st : List Value} {post : zPost}
theorem zr_copy (hO : zOk G X own cc nL) {D index a0 a n0 n1 : Nat} {rf0 rf1 : Nat → Option Nat} (hd : 2 ≤ D) (hRm : zRm X D) (hw : Cond.methodLink own index arraycopyName ∈ lw_tbl) (hl0 : ly a0 = (1, n0, rf0)) (hl1 : ly a = (1, n1, rf1))
    {sp dp n : Int32} (g1 : ¬ sp < 0) (g2 : ¬ dp < 0) (g3 : ¬ n < 0) (g4 : ix sp + ix n ≤ n0) (g5 : ix dp + ix n ≤ n1) (hcat : (st.map fun v => v.category).sum ≤ 8) (hdg : decode cc pc = .ok (.invokestatic index, 3))
    (kk : zV G X nL bc bs S ly τ (zrow σ a (va_cpy (σ a0) (σ a) (ix sp) (ix dp) (ix n))) (pc + 3) ls st) : zV G X nL bc bs S ly τ σ pc ls (.int n :: .int dp :: .ref a :: .int sp :: .ref a0 :: st) := by
  obtain ⟨p, l, e, R, s, m, args, below, meth, c0, Q⟩ := X
  obtain ⟨hx, hb, hml, hown, hts, hlk, hK, htr⟩ := hO
  obtain ⟨hr1, hr2⟩ := hRm
  intro H locs cells slots la hR hS h1 h2 hl
  have he0 : zcell G (ly a0) (σ a0) (τ a0) = some (.inl (G.2.1.1, n0, .inl (σ a0))) := by rw [hl0]; rfl
  have he1 : zcell G (ly a) (σ a) (τ a) = some (.inl (G.2.1.1, n1, .inl (σ a))) := by rw [hl1]; rfl
  have hc0 : H[a0]? = some (vp_cell G.2.1.1 (n0, .inl (σ a0))) := (hR.2 a0 _ he0).2
  have hc1 : H[a]? = some (vp_cell G.2.1.1 (n1, .inl (σ a))) := (hR.2 a _ he1).2
  have hba := (hR.2 a _ he1).1
  have nn : ∀ z : Int32, ¬ z < 0 → z.toInt = (z.toNatClampNeg : Int) := by
    intro z hz
    have hz0 : (0 : Int) ≤ z.toInt := by
      have := Int32.not_lt.mp hz
      simpa using Int32.le_iff_toInt_le.mp this
    show z.toInt = ((z.toInt.toNat : Nat) : Int)
    omega
  have q4 : sp.toNatClampNeg + n.toNatClampNeg ≤ n0 := g4
  have q5 : dp.toNatClampNeg + n.toNatClampNeg ≤ n1 := g5
  intro T hT Xs
  obtain ⟨-, k0, hk0, cm0, hkk0⟩ := (hK.1.2 0 _ rfl).1 n0 (fun j => .int (σ a0 j))
  obtain ⟨-, k1, hk1, cm1, hkk1⟩ := (hK.1.2 0 _ rfl).1 n1 (fun j => .int (σ a j))
  obtain ⟨vm', X', step⟩ := Xs.arraycopy hx hown (hts _ hw rfl) (hts _ zq_ac_native rfl) (hts _ zq_ac_static rfl) (hts _ zq_sys rfl) (src := a0) (dst := a) (cs := vp_cell G.2.1.1 (n0, .inl (σ a0))) (cd := vp_cell G.2.1.1 (n1, .inl (σ a))) (srcPos := sp) (destPos := dp) (n := n) (by rw [hT]; exact hc0) (by rw [hT]; exact hc1)
    (fun _ h => by cases h) (fun _ h => by cases h) (fun h => by cases h) (fun h => by cases h) hk0 hk1 hkk0 hkk1 (by rfl) g1 g2 g3
    (by rw [nn sp g1, nn n g3]; show ¬ _ > ((arrV G.2.1.1 n0 (fun j => .int (σ a0 j))).slots.size : Int); rw [arrV_size]; omega)
    (by rw [nn dp g2, nn n g3]; show ¬ _ > ((arrV G.2.1.1 n1 (fun j => .int (σ a j))).slots.size : Int); rw [arrV_size]; omega)
    (fun vm₁ _ i hi => by
      have e : (vp_cell G.2.1.1 (n0, .inl (σ a0))).slots.getD (sp.toNatClampNeg + i) .null = .int (σ a0 (sp.toNatClampNeg + i)) := by
        show (arrV G.2.1.1 n0 (fun j => .int (σ a0 j))).slots.getD _ _ = _
        rw [Array.getD_eq_getD_getElem?, arrV_read _ _ (by omega)]
        rfl
      refine ⟨?_, ?_⟩
      · rw [e]
        rfl
      · rw [e]
        exact trivial)
    (g := F0 m pc la (.int n :: .int dp :: .ref a :: .int sp :: .ref a0 :: st)) rfl (by rw [hml]; exact hl.1) (rest := st) rfl (by rw [hb]; exact hdg) (by omega) (by
      have hnf : nativeFrameWords "java/lang/System" "arraycopy" 5 ≤ 40 := by decide +kernel
      show 2 * 0 + _ + _ ≤ _
      omega)
  have e1 : copied (vp_cell G.2.1.1 (n0, .inl (σ a0))) (vp_cell G.2.1.1 (n1, .inl (σ a))) sp dp n = vp_cell G.2.1.1 (n1, .inl (va_cpy (σ a0) (σ a) sp.toNatClampNeg dp.toNatClampNeg n.toNatClampNeg)) := va_copied (fun z => .int z) G.2.1.1 G.2.1.1 (σ a0) (σ a) q4
  rw [e1] at X' step
  have hlt : a < H.size := (Array.getElem?_eq_some_iff.mp hc1).1
  have hheap : ((T.setVm vm').setCell a (vp_cell G.2.1.1 (n1, .inl (va_cpy (σ a0) (σ a) sp.toNatClampNeg dp.toNatClampNeg n.toNatClampNeg)))).heap = H.setIfInBounds a (vp_cell G.2.1.1 (n1, .inl (va_cpy (σ a0) (σ a) sp.toNatClampNeg dp.toNatClampNeg n.toNatClampNeg))) := by rw [← hT]; rfl
  have oq : ∀ q : Nat, q ≠ a → (H.setIfInBounds a (vp_cell G.2.1.1 (n1, .inl (va_cpy (σ a0) (σ a) sp.toNatClampNeg dp.toNatClampNeg n.toNatClampNeg))))[q]? = H[q]? := fun q hq => by simp [Array.getElem?_setIfInBounds, Ne.symm hq]
  obtain ⟨t, a1, b1⟩ := kk _ _ cells slots la (zR_set hR he1 (e1 := .inl (G.2.1.1, n1, .inl (va_cpy (σ a0) (σ a) (ix sp) (ix dp) (ix n)))) (by rw [hl1, zrow_eq]; rfl) (by simp) (show (H.setIfInBounds a _)[a]? = some _ by simp [Array.getElem?_setIfInBounds, hlt]) oq (fun x hx => ⟨rfl, zrow_ne σ _ hx, rfl⟩)) ⟨by simp; exact hS.1, fun q g1 g2 => by
      rw [oq q (fun e => g2 (by rw [e]; exact hba))]
      exact hS.2.1 q g1 g2, fun q hq => by
      rcases List.mem_append.mp hq with h | h
      · exact hS.2.2 q h
      · obtain ⟨z, -, hz⟩ := List.mem_map.mp h
        rw [← hz]
        exact hba⟩ h1 h2 hl _ hheap X'
  exact ⟨t, step t a1, b1⟩
/-- new int[n][k]: the outer row at q, the inner ones behind it -/
def zmul (ly : zLy) (q n k : Nat) : zLy := fun a => if a = q then (3, n, fun j => if j < n then some (q + 1 + j) else none) else if q < a ∧ a < q + 1 + n then (1, k, znr) else ly a
def zmulS (σ : zSg) (q n : Nat) : zSg := fun a => if q < a ∧ a < q + 1 + n then (fun _ => 0) else σ a
theorem zr_multi (hO : zOk G X own cc nL) {index : Nat} {n k : Int32} {N K : Nat} (hw : Cond.classLink own index ("[" ++ (FieldType.array .int).toString) ∈ lw_tbl) (g1 : ¬ n < 0) (g2 : ¬ k < 0) (hN : ix n = N) (hK9 : ix k = K) (hNb : N ≤ 1000) (hKb : K ≤ 1000) (hb1 : 1 + N ≤ bc) (hb2 : N + N * K ≤ bs) (hdg : decode cc pc = .ok (.multianewarray index 2, 4))
    (kk : ∀ q, S q → zV G X nL (bc - (1 + N)) (bs - (N + N * K)) (fun z => z = q + 1 + N) (zmul ly q N K) τ (zmulS σ q N) (pc + 4) ls (.ref q :: st)) : zV G X nL bc bs S ly τ σ pc ls (.int k :: .int n :: st) := by
  obtain ⟨p, l, e, R, s, m, args, below, meth, c0, Q⟩ := X
  obtain ⟨hx, hb, hml, hown, hts, hlk, hK, htr⟩ := hO
  intro H locs cells slots la hR hS h1 h2 hl
  subst hN
  subst hK9
  intro T hT Xs
  obtain ⟨vm₁, cA, comp, -, fA, fC, hO9, -, X', step⟩ := Xs.multianewarray2F hx hown (hts _ hw rfl) hK.2.2.2.2.2.2.2.2.1 (hts _ zac_int rfl) (g := F0 m pc la (.int k :: .int n :: st)) rfl (by rw [hb]; exact hdg) rfl g1 g2 (by show n.toNatClampNeg * 4 ≤ _; have : n.toNatClampNeg ≤ 1000 := hNb; omega) (by show k.toNatClampNeg * 4 ≤ _; have : k.toNatClampNeg ≤ 1000 := hKb; omega) (by have : k.toNatClampNeg ≤ 1000 := hKb; omega) rfl rfl (by show _ ≤ _; have : n.toNatClampNeg = ix n := rfl; omega) (by show _ ≤ _; have e1 : n.toNatClampNeg = ix n := rfl; have e2 : k.toNatClampNeg = ix k := rfl; rw [e1, e2]; omega)
  have hci : G.2.1.1 = comp := by
    have h9 : s.vm.findClass ("[" ++ FieldType.int.toString) = some G.2.1.1 := (hK.1.2 0 _ rfl).2
    have e9 : "[" ++ FieldType.int.toString = (FieldType.array .int).toString := by decide +kernel
    rw [e9, fC] at h9
    exact (Option.some.inj h9).symm
  subst hci
  have hca : G.2.1.2.2.1 = cA := zRA_one (hK.1.2 2 _ rfl).2 fA (fun C h => by cases h)
  subst hca
  generalize hF : Jvm.Free.Multi.fill (T.setVm vm₁) G.2.1.2.2.1 G.2.1.1 n.toNatClampNeg k.toNatClampNeg (defaultValue .int) n.toNatClampNeg = F at X' step
  have hTh : (T.setVm vm₁).heap = H := hT
  obtain ⟨f1, f2, -, -⟩ := Jvm.Free.Multi.fill_facts (T.setVm vm₁) G.2.1.2.2.1 G.2.1.1 n.toNatClampNeg k.toNatClampNeg (defaultValue .int) n.toNatClampNeg
  rw [hF, hTh] at f1 f2
  have hold : ∀ x : Nat, x < H.size → F.heap[x]? = H[x]? := fun x hx => by
    have := Jvm.Free.Multi.fill_old (T.setVm vm₁) G.2.1.2.2.1 G.2.1.1 n.toNatClampNeg k.toNatClampNeg (defaultValue .int) (a := x) (by rw [hTh]; exact hx) n.toNatClampNeg
    rw [hF, hTh] at this
    exact this
  have hrow : ∀ j : Nat, j < n.toNatClampNeg → F.heap[H.size + 1 + j]? = some (vp_cell G.2.1.1 (ix k, .inl (fun _ => 0))) := fun j hj => by
    have := Jvm.Free.Multi.fill_inner (T.setVm vm₁) G.2.1.2.2.1 G.2.1.1 n.toNatClampNeg k.toNatClampNeg (defaultValue .int) n.toNatClampNeg j hj
    rw [hF, hTh] at this
    rw [this, vp_cell_i, ← arrV_new]
    rfl
  have hout : Jvm.Free.Multi.outerC G.2.1.2.2.1 n.toNatClampNeg H.size n.toNatClampNeg = vp_cell G.2.1.2.2.1 (n.toNatClampNeg, .inr (.inr (.inr (.inr (fun j => if j < n.toNatClampNeg then some (H.size + 1 + j) else none))))) := by
    rw [vp_cell_q]
    exact zouter G.2.1.2.2.1 n.toNatClampNeg H.size n.toNatClampNeg
  rw [hout] at f2
  have hb0 : G.2.2.1 ≤ H.size := Nat.le_trans hK.2.1 hS.1
  have hR1 : zR G (fun z => z = H.size + 1 + ix n) (zmul ly H.size (ix n) (ix k)) τ (zmulS σ H.size (ix n)) F.heap := by
    refine ⟨f1, fun a e9 he9 => ?_⟩
    by_cases ha : a = H.size
    · subst ha
      unfold zmul at he9
      rw [if_pos rfl] at he9
      cases he9
      exact ⟨hb0, f2⟩
    · by_cases hr : H.size < a ∧ a < H.size + 1 + ix n
      · unfold zmul zmulS at he9
        rw [if_neg ha, if_pos hr, if_pos hr] at he9
        cases he9
        have := hrow (a - (H.size + 1)) (by show a - (H.size + 1) < ix n; omega)
        rw [show H.size + 1 + (a - (H.size + 1)) = a by omega] at this
        exact ⟨by omega, this⟩
      · unfold zmul zmulS at he9
        rw [if_neg ha, if_neg hr, if_neg hr] at he9
        have h9 := hR.2 a e9 he9
        exact ⟨h9.1, h9.2.kept (hold a h9.2.lt)⟩
  obtain ⟨t, a1, b1⟩ := kk H.size hR.1 F.heap locs (cells + 1 + n.toNatClampNeg) (slots + n.toNatClampNeg + n.toNatClampNeg * k.toNatClampNeg) la hR1 (zS_push hS (by rw [f1]; omega) hold) (by show cells + 1 + ix n + _ ≤ _; omega) (by show slots + ix n + ix n * ix k + _ ≤ _; omega) hl F rfl X'
  refine ⟨t, step t ?_, b1⟩
  have e9 : T.heap.size = H.size := by rw [hT]
  rw [e9]
  exact a1
end ZL
