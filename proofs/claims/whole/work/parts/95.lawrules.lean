/-! The law: its script, its switch, the two systems side by side -/
section ZLR
variable {G : zGm} {X : zCx} {own : String} {cc : ByteArray} {nL bc bs : Nat} {S : Nat → Prop} {ly : zLy} {τ : zTu} {σ : zSg} {pc : Nat} {ls : List (Option Value)} {st : List Value}
theorem zr_slen (hO : zOk G X own cc nL) (hdg : decode cc pc = .ok (.arraylength, 1)) (kk : zV G X nL bc bs S ly τ σ (pc + 1) ls (.int (Int32.ofNat G.2.2.2.2.1) :: st)) : zV G X nL bc bs S ly τ σ pc ls (.ref G.2.2.2.1 :: st) := by
  obtain ⟨p, l, e, R, s, m, args, below, meth, c0, Q⟩ := X
  obtain ⟨hx, hb, hml, hown, hts, hlk, hK, htr⟩ := hO
  intro H locs cells slots la hR hS h1 h2 hl
  exact va_slen hx hb hK.2.2.1.1 (Nat.lt_of_lt_of_le hK.2.2.1.2 hK.2.1) (Nat.not_le.mpr hK.2.2.1.2) hS hdg (kk H locs cells slots la hR hS h1 h2 hl)
theorem zr_sld (hO : zOk G X own cc nL) {i : Int32} (hin : vp_in i G.2.2.2.2.1) (hdg : decode cc pc = .ok (.iaload, 1)) (kk : zV G X nL bc bs S ly τ σ (pc + 1) ls (.int (G.2.2.2.2.2 (ix i)) :: st)) : zV G X nL bc bs S ly τ σ pc ls (.int i :: .ref G.2.2.2.1 :: st) := by
  obtain ⟨p, l, e, R, s, m, args, below, meth, c0, Q⟩ := X
  obtain ⟨hx, hb, hml, hown, hts, hlk, hK, htr⟩ := hO
  intro H locs cells slots la hR hS h1 h2 hl
  exact va_sld hx hb hK.2.2.1.1 (Nat.lt_of_lt_of_le hK.2.2.1.2 hK.2.1) (Nat.not_le.mpr hK.2.2.1.2) hS hin hdg (kk H locs cells slots la hR hS h1 h2 hl)
theorem zr_tabOut (hO : zOk G X own cc nL) {dflt lo hi : Int} {offs : Array Int} {len : Nat} {x : Int32} {tgt : Nat} (hdg : decode cc pc = .ok (.tableswitch dflt lo hi offs, len)) (h : x.toInt < lo ∨ hi < x.toInt) (ht : (pc : Int) + dflt = (tgt : Int)) (kk : zV G X nL bc bs S ly τ σ tgt ls st) : zV G X nL bc bs S ly τ σ pc ls (.int x :: st) := by
  obtain ⟨p, l, e, R, s, m, args, below, meth, c0, Q⟩ := X
  obtain ⟨hx, hb, hml, hown, hts, hlk, hK, htr⟩ := hO
  intro H locs cells slots la hR hS h1 h2 hl
  exact lv_tableOut hx hb hdg h ht (kk H locs cells slots la hR hS h1 h2 hl)
theorem zr_tabIn (hO : zOk G X own cc nL) {dflt lo hi : Int} {offs : Array Int} {len : Nat} {x : Int32} {off : Int} {tgt : Nat} (hdg : decode cc pc = .ok (.tableswitch dflt lo hi offs, len)) (g1 : ¬ x.toInt < lo) (g2 : ¬ hi < x.toInt) (ho : offs[(x.toInt - lo).toNat]? = some off) (ht : (pc : Int) + off = (tgt : Int)) (kk : zV G X nL bc bs S ly τ σ tgt ls st) : zV G X nL bc bs S ly τ σ pc ls (.int x :: st) := by
  obtain ⟨p, l, e, R, s, m, args, below, meth, c0, Q⟩ := X
  obtain ⟨hx, hb, hml, hown, hts, hlk, hK, htr⟩ := hO
  intro H locs cells slots la hR hS h1 h2 hl
  exact lv_tableIn hx hb hdg g1 g2 ho ht (kk H locs cells slots la hR hS h1 h2 hl)
end ZLR
def st3 (σ : zSg) (x : Nat) (A B M : zSg) : zSg := zwr (zwr (zwr σ (x + 1) 95 A) (x + 96) 95 B) (x + 191) 103 M
theorem st3_M (σ : zSg) (x : Nat) (A B M : zSg) : st3 σ x A B M = zwr (zwr (zwr σ (x + 1) 95 A) (x + 96) 95 B) (x + 191) 103 M := rfl
theorem st3_B (σ : zSg) (x : Nat) (A B M : zSg) : st3 σ x A B M = zwr (zwr (zwr σ (x + 191) 103 M) (x + 1) 95 A) (x + 96) 95 B := by
  unfold st3
  rw [zwr_comm _ B M (by omega), zwr_comm _ A M (by omega)]
theorem st3_A (σ : zSg) (x : Nat) (A B M : zSg) : st3 σ x A B M = zwr (zwr (zwr σ (x + 96) 95 B) (x + 191) 103 M) (x + 1) 95 A := by
  unfold st3
  rw [zwr_comm σ A B (by omega), zwr_comm _ A M (by omega)]
theorem nI_4 (i : Nat) : nI i + 4 = nI (i + 4) := by
  rw [show (4 : Int32) = 1 + 1 + 1 + 1 by decide, ← Int32.add_assoc, ← Int32.add_assoc, ← Int32.add_assoc, nI_1, nI_1, nI_1, nI_1]
theorem nI_2 (i : Nat) : nI i + 2 = nI (i + 2) := by
  rw [show (2 : Int32) = 1 + 1 by decide, ← Int32.add_assoc, nI_1, nI_1]
theorem nI_3 (i : Nat) : nI i + 3 = nI (i + 3) := by
  rw [show (3 : Int32) = 1 + 1 + 1 by decide, ← Int32.add_assoc, ← Int32.add_assoc, nI_1, nI_1, nI_1]
/-- the law's frame and its objects -/
def zLw (G : zGm) (X : zCx) (l : Launch) (D : Nat) (ly : zLy) (x w n : Nat) : Prop :=
  (zOk G X RL cL_law 9 ∧ zRm X D ∧ zLn X l ∧ 11 ≤ D ∧ l.stackTraces = false) ∧ (ly x = (6 + 5, 2, zcr6 (x + 1) (x + 96)) ∧ zC ly (x + 1) ∧ zC ly (x + 96) ∧ zM ly (x + 191) ∧ ly w = (2, 1, znr)) ∧ (x + 191 + 103 ≤ w ∧ w < n) ∧ (∀ a, n ≤ a → (ly a).1 = 0) ∧ G.2.2.2.2.1 ≤ 2048
/-- at the head of the loop, i of the script read, j turns to go -/
def zHead (G : zGm) (X : zCx) (ly : zLy) (σ : zSg) (x w n j i : Nat) : Prop := ∀ (τ : zTu) (A B M : zSg) (nn K : Nat), zQR nn K A M → zU B → K + 160 * j + 240 ≤ 190000 → zV G X 9 (300 * j) (2500 * j) (fun z => n ≤ z) ly τ (st3 σ x A B M) 23 [some (.ref G.2.2.2.1), some (.ref x), some (.ref (x + 191)), some (.ref w), some (.int (nI i)), none, none, none, none] []
/-- at the end of a turn -/
theorem t_end {G : zGm} {X : zCx} {l : Launch} {D x w n j i bc bs nn K : Nat} {ly : zLy} {τ : zTu} {σ A B M : zSg} {l5 l6 l7 l8 : Option Value} (H : zLw G X l D ly x w n) (hn : zHead G X ly σ x w n j (i + 4)) (hQ : zQR nn K A M) (hU : zU B) (hK : K + 160 * j + 240 ≤ 190000) (hb1 : 300 * j ≤ bc) (hb2 : 2500 * j ≤ bs) : zV G X 9 bc bs (fun z => n ≤ z) ly τ (st3 σ x A B M) 2173 [some (.ref G.2.2.2.1), some (.ref x), some (.ref (x + 191)), some (.ref w), some (.int (nI i)), l5, l6, l7, l8] [] := by
  obtain ⟨⟨hO, -⟩, -⟩ := H
  refine zV_b hb1 hb2 ?_
  refine zr_iinc_4 (v := 4) hO dL_law_2173 (by decide) (by decide) rfl ?_
  refine zr_goto (tgt := 23) hO dL_law_2176 (by decide) ?_
  rw [nI_4]
  refine zV_d5 (zV_d6 (zV_d7 (zV_d8 ?_)))
  exact hn τ A B M nn K hQ hU hK
theorem sidx {L i k : Nat} (hL : L ≤ 2048) (hi : i + 4 ≤ L) (hk : k < 4) : vp_in (nI (i + k)) L := vp_in_nI (by omega) (by omega)
