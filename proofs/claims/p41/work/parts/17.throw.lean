/-! throw new E("text") -/
def zXn : List String := ["java/lang/RuntimeException", "java/lang/Exception"]
theorem zXn_fit : ∀ n ∈ zXn, Bundle.fit n = true := by decide +kernel
def zXw (ik ic : Nat) (cls : String) : List Cond := Cond.classLink RX6 ik cls :: Cond.initialized cls :: vx_atS RX6 ic cls zXn
theorem zXw_arg : (zXw 288 292 "java/lang/IllegalArgumentException").all (fun w => decide (w ∈ lw_tbl) && ((goodWord w || zokw w) && vx_ot w)) = true := by decide +kernel
theorem zXw_st : (zXw 66 70 "java/lang/IllegalStateException").all (fun w => decide (w ∈ lw_tbl) && ((goodWord w || zokw w) && vx_ot w)) = true := by decide +kernel
theorem zXw_ix : (zXw 49 53 "java/lang/IndexOutOfBoundsException").all (fun w => decide (w ∈ lw_tbl) && ((goodWord w || zokw w) && vx_ot w)) = true := by decide +kernel
section ZT
variable {G : zGm} {X : zCx} {cc : ByteArray} {nL bc bs : Nat} {S : Nat → Prop} {ly : zLy} {τ : zTu} {σ : zSg} {pc : Nat} {ls : List (Option Value)} {st : List Value} {post : zPost}
theorem zr_throw (hO : zOk G X RX6 cc nL) {ret : Option FieldType} (hE : zEnd G X post ret) (hN : zNH X) {D ik ic is : Nat} {cls : String} (hd : 6 ≤ D) (hRm : zRm X D) (hw : (zXw ik ic cls).all (fun w => decide (w ∈ lw_tbl) && ((goodWord w || zokw w) && vx_ot w)) = true) (hf : Bundle.fit cls = true) (his : is ∈ zStrs) (hcat : (st.map fun v => v.category).sum ≤ 8) (hb1 : 1 ≤ bc) (hb2 : 6 ≤ bs)
    (d0 : decode cc pc = .ok (.new ik, 3)) (d3 : decode cc (pc + 3) = .ok (.dup, 1)) (d4 : decode cc (pc + 4) = .ok (.ldc is, 2)) (d6 : decode cc (pc + 6) = .ok (.invokespecial ic, 3)) (d9 : decode cc (pc + 9) = .ok (.athrow, 1))
    (hp : ∀ z z', S z → z ≤ z' → post (.inr cls) z' ly τ σ) : zV G X nL bc bs S ly τ σ pc ls st := by
  obtain ⟨p, l, e, R, s, m, args, below, meth, c0, Q⟩ := X
  obtain ⟨hx, hb, hml, hown, hts, hlk, hK, htr⟩ := hO
  obtain ⟨hr, rfl⟩ := hE
  obtain ⟨hr1, hr2⟩ := hRm
  intro H locs cells slots la hR hS h1 h2 hl
  have hall : ∀ w ∈ zXw ik ic cls, w.before args s = true ∧ vx_ot w = true := by
    intro w hm
    have h9 := List.all_eq_true.mp hw w hm
    simp only [Bool.and_eq_true, Bool.or_eq_true, decide_eq_true_eq] at h9
    obtain ⟨g1, g2, g3⟩ := h9
    refine ⟨?_, g3⟩
    rcases g2 with g | g
    · exact hts w g1 g
    · exact zokw_use g (hK.2.2.2.2.2.2.1 w g1 g)
  obtain ⟨sa, hsa⟩ := hK.2.2.2.2.2.1 is his
  have hlen : zXn.length = 2 := rfl
  exact vx_throwS (names := zXn) (A := zA G) (sa := sa) hx hb htr hown hf zXn_fit (hall _ List.mem_cons_self).1 (hall _ (List.mem_cons_of_mem _ List.mem_cons_self)).1 hsa
    (fun w h => (hall w (List.mem_cons_of_mem _ (List.mem_cons_of_mem _ h))).1) (fun w h => (hall w h).2) hK.2.2.2.1 hK.2.2.2.2.1 hS (hl.1.trans hml.symm) d0 d3 d4 d6 d9 (fun x h => absurd (hN x h) id)
    (by rw [hlen]; omega) (by rw [hlen]; omega) (by omega) (by omega) hlk
    (fun t ha hz hk => ⟨t.heap.size, ly, τ, σ, hp H.size t.heap.size hR.1 hz, ⟨rfl, fun a e he => ⟨(hR.2 a e he).1, (hR.2 a e he).2.kept (hk a (hR.2 a e he).2.lt)⟩⟩, Nat.le_trans hS.1 hz, fun q g1 g2 => (hk q (Nat.lt_of_lt_of_le g1 hS.1)).trans (hS.2.1 q g1 g2)⟩) (fun z hz => hS.2.2 z hz) (by omega) (by omega)
end ZT
