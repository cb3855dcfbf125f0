/-! The reference's take: three rows of its own beside the region -/
def z3 (σ : zSg) (q1 q2 q3 : Nat) (L P T : Nat → Int32) : zSg := zrow (zrow (zrow σ q1 L) q2 P) q3 T
def zQ3 (ly : zLy) (o q1 q2 q3 : Nat) : Prop := ly q1 = (1, 16, znr) ∧ ly q2 = (1, 4, znr) ∧ ly q3 = (1, 3, znr) ∧ o + 103 ≤ q1 ∧ q1 < q2 ∧ q2 < q3
theorem z3_1 (σ : zSg) {o q1 q2 q3 : Nat} (L P T : Nat → Int32) (M : zSg) (h0 : o + 103 ≤ q1) (h1 : q1 < q2) (h2 : q2 < q3) : zwr (z3 σ q1 q2 q3 L P T) o 103 M q1 = L := by
  rw [zwr_out _ _ (by omega)]
  unfold z3
  rw [zrow_ne _ _ (by omega), zrow_ne _ _ (by omega), zrow_eq]
theorem z3_2 (σ : zSg) {o q1 q2 q3 : Nat} (L P T : Nat → Int32) (M : zSg) (h0 : o + 103 ≤ q1) (h1 : q1 < q2) (h2 : q2 < q3) : zwr (z3 σ q1 q2 q3 L P T) o 103 M q2 = P := by
  rw [zwr_out _ _ (by omega)]
  unfold z3
  rw [zrow_ne _ _ (by omega), zrow_eq]
theorem z3_3 (σ : zSg) {o q1 q2 q3 : Nat} (L P T : Nat → Int32) (M : zSg) (h0 : o + 103 ≤ q1) (h1 : q1 < q2) (h2 : q2 < q3) : zwr (z3 σ q1 q2 q3 L P T) o 103 M q3 = T := by
  rw [zwr_out _ _ (by omega)]
  unfold z3
  rw [zrow_eq]
theorem z3_o (σ : zSg) {o q1 q2 q3 a : Nat} (L P T : Nat → Int32) (M : zSg) (h1 : a ≠ q1) (h2 : a ≠ q2) (h3 : a ≠ q3) : zwr (z3 σ q1 q2 q3 L P T) o 103 M a = zwr σ o 103 M a := by
  funext j
  unfold zwr
  split
  · rfl
  · unfold z3
    rw [zrow_ne _ _ h3, zrow_ne _ _ h2, zrow_ne _ _ h1]
theorem z3_up1 (σ : zSg) {o q1 q2 q3 : Nat} (L P T : Nat → Int32) (M : zSg) (k : Nat) (v : Int32) (h0 : o + 103 ≤ q1) (h1 : q1 < q2) (h2 : q2 < q3) : zup (zwr (z3 σ q1 q2 q3 L P T) o 103 M) q1 k v = zwr (z3 σ q1 q2 q3 (upd L k v) P T) o 103 M := by
  funext a
  by_cases ha : a = q1
  · subst ha
    rw [zup_eq, z3_1 _ _ _ _ _ h0 h1 h2, z3_1 _ _ _ _ _ h0 h1 h2]
  · rw [zup_ne _ _ _ ha]
    by_cases hb : a = q2
    · subst hb
      rw [z3_2 _ _ _ _ _ h0 h1 h2, z3_2 _ _ _ _ _ h0 h1 h2]
    · by_cases hc : a = q3
      · subst hc
        rw [z3_3 _ _ _ _ _ h0 h1 h2, z3_3 _ _ _ _ _ h0 h1 h2]
      · rw [z3_o _ _ _ _ _ ha hb hc, z3_o _ _ _ _ _ ha hb hc]
theorem z3_up2 (σ : zSg) {o q1 q2 q3 : Nat} (L P T : Nat → Int32) (M : zSg) (k : Nat) (v : Int32) (h0 : o + 103 ≤ q1) (h1 : q1 < q2) (h2 : q2 < q3) : zup (zwr (z3 σ q1 q2 q3 L P T) o 103 M) q2 k v = zwr (z3 σ q1 q2 q3 L (upd P k v) T) o 103 M := by
  funext a
  by_cases hb : a = q2
  · subst hb
    rw [zup_eq, z3_2 _ _ _ _ _ h0 h1 h2, z3_2 _ _ _ _ _ h0 h1 h2]
  · rw [zup_ne _ _ _ hb]
    by_cases ha : a = q1
    · subst ha
      rw [z3_1 _ _ _ _ _ h0 h1 h2, z3_1 _ _ _ _ _ h0 h1 h2]
    · by_cases hc : a = q3
      · subst hc
        rw [z3_3 _ _ _ _ _ h0 h1 h2, z3_3 _ _ _ _ _ h0 h1 h2]
      · rw [z3_o _ _ _ _ _ ha hb hc, z3_o _ _ _ _ _ ha hb hc]
theorem z3_up3 (σ : zSg) {o q1 q2 q3 : Nat} (L P T : Nat → Int32) (M : zSg) (k : Nat) (v : Int32) (h0 : o + 103 ≤ q1) (h1 : q1 < q2) (h2 : q2 < q3) : zup (zwr (z3 σ q1 q2 q3 L P T) o 103 M) q3 k v = zwr (z3 σ q1 q2 q3 L P (upd T k v)) o 103 M := by
  funext a
  by_cases hc : a = q3
  · subst hc
    rw [zup_eq, z3_3 _ _ _ _ _ h0 h1 h2, z3_3 _ _ _ _ _ h0 h1 h2]
  · rw [zup_ne _ _ _ hc]
    by_cases ha : a = q1
    · subst ha
      rw [z3_1 _ _ _ _ _ h0 h1 h2, z3_1 _ _ _ _ _ h0 h1 h2]
    · by_cases hb : a = q2
      · subst hb
        rw [z3_2 _ _ _ _ _ h0 h1 h2, z3_2 _ _ _ _ _ h0 h1 h2]
      · rw [z3_o _ _ _ _ _ ha hb hc, z3_o _ _ _ _ _ ha hb hc]
section ZQ
variable {G : zGm} {X : zCx} {own : String} {cc : ByteArray} {nL bc bs : Nat} {S : Nat → Prop} {ly : zLy} {τ : zTu} {σ M : zSg} {pc o q1 q2 q3 : Nat} {ls : List (Option Value)} {st : List Value} {L P T : Nat → Int32}
theorem zt_ald1 (hO : zOk G X own cc nL) (hQ : zQ3 ly o q1 q2 q3) {i : Int32} (hin : vp_in i 16) (hdg : decode cc pc = .ok (.iaload, 1)) (kk : zV G X nL bc bs S ly τ (zwr (z3 σ q1 q2 q3 L P T) o 103 M) (pc + 1) ls (.int (L (ix i)) :: st)) : zV G X nL bc bs S ly τ (zwr (z3 σ q1 q2 q3 L P T) o 103 M) pc ls (.int i :: .ref q1 :: st) := by
  obtain ⟨h1, h2, h3, h4, h5, h6⟩ := hQ
  exact zr_iald hO h1 hin hdg (by rw [z3_1 _ _ _ _ _ h4 h5 h6]; exact kk)
theorem zt_ald2 (hO : zOk G X own cc nL) (hQ : zQ3 ly o q1 q2 q3) {i : Int32} (hin : vp_in i 4) (hdg : decode cc pc = .ok (.iaload, 1)) (kk : zV G X nL bc bs S ly τ (zwr (z3 σ q1 q2 q3 L P T) o 103 M) (pc + 1) ls (.int (P (ix i)) :: st)) : zV G X nL bc bs S ly τ (zwr (z3 σ q1 q2 q3 L P T) o 103 M) pc ls (.int i :: .ref q2 :: st) := by
  obtain ⟨h1, h2, h3, h4, h5, h6⟩ := hQ
  exact zr_iald hO h2 hin hdg (by rw [z3_2 _ _ _ _ _ h4 h5 h6]; exact kk)
theorem zt_ald3 (hO : zOk G X own cc nL) (hQ : zQ3 ly o q1 q2 q3) {i : Int32} (hin : vp_in i 3) (hdg : decode cc pc = .ok (.iaload, 1)) (kk : zV G X nL bc bs S ly τ (zwr (z3 σ q1 q2 q3 L P T) o 103 M) (pc + 1) ls (.int (T (ix i)) :: st)) : zV G X nL bc bs S ly τ (zwr (z3 σ q1 q2 q3 L P T) o 103 M) pc ls (.int i :: .ref q3 :: st) := by
  obtain ⟨h1, h2, h3, h4, h5, h6⟩ := hQ
  exact zr_iald hO h3 hin hdg (by rw [z3_3 _ _ _ _ _ h4 h5 h6]; exact kk)
theorem zt_ald1N (hO : zOk G X own cc nL) (hQ : zQ3 ly o q1 q2 q3) {k : Nat} (hk : k < 16) (hdg : decode cc pc = .ok (.iaload, 1)) (kk : zV G X nL bc bs S ly τ (zwr (z3 σ q1 q2 q3 L P T) o 103 M) (pc + 1) ls (.int (L k) :: st)) : zV G X nL bc bs S ly τ (zwr (z3 σ q1 q2 q3 L P T) o 103 M) pc ls (.int (nI k) :: .ref q1 :: st) :=
  zt_ald1 hO hQ (vp_in_nI hk (by omega)) hdg (by rw [zix (by omega)]; exact kk)
theorem zt_ald3N (hO : zOk G X own cc nL) (hQ : zQ3 ly o q1 q2 q3) {k : Nat} (hk : k < 3) (hdg : decode cc pc = .ok (.iaload, 1)) (kk : zV G X nL bc bs S ly τ (zwr (z3 σ q1 q2 q3 L P T) o 103 M) (pc + 1) ls (.int (T k) :: st)) : zV G X nL bc bs S ly τ (zwr (z3 σ q1 q2 q3 L P T) o 103 M) pc ls (.int (nI k) :: .ref q3 :: st) :=
  zt_ald3 hO hQ (vp_in_nI hk (by omega)) hdg (by rw [zix (by omega)]; exact kk)
theorem zt_ast1N (hO : zOk G X own cc nL) (hQ : zQ3 ly o q1 q2 q3) {k : Nat} {v : Int32} (hk : k < 16) (hdg : decode cc pc = .ok (.iastore, 1)) (kk : zV G X nL bc bs S ly τ (zwr (z3 σ q1 q2 q3 (upd L k v) P T) o 103 M) (pc + 1) ls st) : zV G X nL bc bs S ly τ (zwr (z3 σ q1 q2 q3 L P T) o 103 M) pc ls (.int v :: .int (nI k) :: .ref q1 :: st) := by
  obtain ⟨h1, h2, h3, h4, h5, h6⟩ := hQ
  exact zr_iast hO h1 (vp_in_nI hk (by omega)) hdg (by rw [zix (by omega), z3_up1 _ _ _ _ _ _ _ h4 h5 h6]; exact kk)
theorem zt_ast2 (hO : zOk G X own cc nL) (hQ : zQ3 ly o q1 q2 q3) {i v : Int32} (hin : vp_in i 4) (hdg : decode cc pc = .ok (.iastore, 1)) (kk : zV G X nL bc bs S ly τ (zwr (z3 σ q1 q2 q3 L (upd P (ix i) v) T) o 103 M) (pc + 1) ls st) : zV G X nL bc bs S ly τ (zwr (z3 σ q1 q2 q3 L P T) o 103 M) pc ls (.int v :: .int i :: .ref q2 :: st) := by
  obtain ⟨h1, h2, h3, h4, h5, h6⟩ := hQ
  exact zr_iast hO h2 hin hdg (by rw [z3_up2 _ _ _ _ _ _ _ h4 h5 h6]; exact kk)
theorem zt_ast3N (hO : zOk G X own cc nL) (hQ : zQ3 ly o q1 q2 q3) {k : Nat} {v : Int32} (hk : k < 3) (hdg : decode cc pc = .ok (.iastore, 1)) (kk : zV G X nL bc bs S ly τ (zwr (z3 σ q1 q2 q3 L P (upd T k v)) o 103 M) (pc + 1) ls st) : zV G X nL bc bs S ly τ (zwr (z3 σ q1 q2 q3 L P T) o 103 M) pc ls (.int v :: .int (nI k) :: .ref q3 :: st) := by
  obtain ⟨h1, h2, h3, h4, h5, h6⟩ := hQ
  exact zr_iast hO h3 (vp_in_nI hk (by omega)) hdg (by rw [zix (by omega), z3_up3 _ _ _ _ _ _ _ h4 h5 h6]; exact kk)
end ZQ
theorem zM_lk {ly : zLy} {o q : Nat} {kd : zKd} (h : zM ly o) (hq : o + 103 ≤ q) : zM (zlk ly q kd) o := fun f hf => by rw [zlk_ne ly kd (by omega)]; exact h f hf
theorem zwr_zrow (σ : zSg) {o N q : Nat} (M : zSg) (f : Nat → Int32) (h : q < o ∨ o + N ≤ q) : zrow (zwr σ o N M) q f = zwr (zrow σ q f) o N M := by
  funext a
  by_cases h1 : a = q
  · subst h1
    rw [zrow_eq, zwr_out _ _ h, zrow_eq]
  · rw [zrow_ne _ _ h1]
    funext j
    unfold zwr
    split
    · rfl
    · rw [zrow_ne _ _ h1]
def mB_left (M : zSg) (k : Nat) (s : (Nat → Int32) × Int32) : (Nat → Int32) × Int32 := (upd s.1 k (mF_lent M (nI k)), s.2 ||| (if M 41 k = 1 then (1 : Int32) <<< (nI k &&& 31) else if M 41 k = 2 then (1 : Int32) <<< (nI k &&& 31) else 0))
def mF_left (M : zSg) : (Nat → Int32) × Int32 := (List.range (ix (M 0 15))).foldl (fun s i => mB_left M i s) ((fun _ => 0), 0)
def mB_best (M : zSg) (L : Nat → Int32) (left : Int32) (k : Nat) (s : Int32) : Int32 := if (left >>> (nI k &&& 31)) &&& 1 = 0 then s else if s = -1 then nI k else if mF_isAhead M (nI k) (L k) s (L (ix s)) = true then nI k else s
def mF_best (M : zSg) (L : Nat → Int32) (left : Int32) : Int32 := (List.range (ix (M 0 15))).foldl (fun s i => mB_best M L left i s) (-1)
def mF_tk (M : zSg) (L : Nat → Int32) : Nat → Int32 → Nat → (Nat → Int32) → (Nat → Int32) → Option (Nat × (Nat → Int32))
  | 0, _, _, _, _ => none
  | f + 1, left, c, P, T =>
    if left = 0 then some (c, T) else if nI c < M 0 6 then
      (if mF_best M L left = -1 then none
      else if 0 < M 1 (ix (M 4 (ix (mF_best M L left)))) then
        (if P (ix (M 4 (ix (mF_best M L left)))) < M 1 (ix (M 4 (ix (mF_best M L left)))) then
          mF_tk M L f (left &&& (((1 : Int32) <<< (mF_best M L left &&& 31)) ^^^ (-1))) (c + 1) (upd P (ix (M 4 (ix (mF_best M L left)))) (P (ix (M 4 (ix (mF_best M L left)))) + 1)) (upd T c (mF_best M L left))
        else mF_tk M L f (left &&& (((1 : Int32) <<< (mF_best M L left &&& 31)) ^^^ (-1))) c P T)
      else mF_tk M L f (left &&& (((1 : Int32) <<< (mF_best M L left &&& 31)) ^^^ (-1))) (c + 1) (upd P (ix (M 4 (ix (mF_best M L left)))) (P (ix (M 4 (ix (mF_best M L left)))) + 1)) (upd T c (mF_best M L left)))
    else some (c, T)
theorem zr_best1 (M : zSg) (L : Nat → Int32) (left : Int32) {k : Nat} {s : Int32} (hk : k < 16) (hs : zr1 s (-1) 15) : zr1 (mB_best M L left k s) (-1) 15 := by
  unfold mB_best
  repeat' split
  all_goals first | exact hs | exact zr_nI hk
theorem zr_best {M : zSg} (hW : zmW M) (L : Nat → Int32) (left : Int32) : zr1 (mF_best M L left) (-1) 15 :=
  zfold_i (P := fun s => zr1 s (-1) 15) _ _ (fun k s hk hs => zr_best1 M L left (by have := zmW_n16 hW; omega) hs) ⟨by decide, by decide⟩
def mB_keep (T : Nat → Int32) (c p : Nat) (M : zSg) : zSg := if M 68 p = -1 then M else if mF_any T c (M 68 p) = true then M else zup (zup M 41 (ix (M 68 p)) 1) 68 p (-1)
def mF_keep (T : Nat → Int32) (c : Nat) (M : zSg) : zSg := (List.range (ix (M 0 6))).foldl (fun s i => mB_keep T c i s) M
def mB_give (T : Nat → Int32) (k : Nat) (M : zSg) : zSg := if M 41 (ix (T k)) = 2 then M else mF_give M (T k)
def mF_gives (T : Nat → Int32) (c : Nat) (M : zSg) : zSg := (List.range c).foldl (fun s i => mB_give T i s) M
theorem zk_keep {M M' : zSg} (h : zk M M') (T : Nat → Int32) (c : Nat) : zk M (mF_keep T c M') := by
  refine zk_fold (mB_keep T c) (fun k s hs => ?_) _ _ h
  unfold mB_keep
  repeat' split
  · exact hs
  · exact hs
  · exact zk_up (zk_up hs (f := 41) (by rfl) zst_1) (f := 68) (by rfl) zr_m1
theorem zk_keep1 {M M' : zSg} (h : zk M M') (T : Nat → Int32) (c p : Nat) : zk M (mB_keep T c p M') := by
  unfold mB_keep
  repeat' split
  · exact h
  · exact h
  · exact zk_up (zk_up h (f := 41) (by rfl) zst_1) (f := 68) (by rfl) zr_m1
theorem zk_give1 {M M' : zSg} (h : zk M M') {T : Nat → Int32} {k : Nat} (ht : vp_in (T k) 16) : zk M (mB_give T k M') := by
  unfold mB_give
  split
  · exact h
  · exact zk_give h ht
/-- those taken are numbers of tasks, and few -/
theorem mF_tk_in {M : zSg} (hW : zmW M) {L : Nat → Int32} : ∀ (f : Nat) (left : Int32) (c : Nat) (P T : Nat → Int32) (c' : Nat) (T' : Nat → Int32), (∀ k, k < c → vp_in (T k) 16) → c ≤ 3 → mF_tk M L f left c P T = some (c', T') → (∀ k, k < c' → vp_in (T' k) 16) ∧ c' ≤ 3 := by
  intro f
  induction f with
  | zero => intro left c P T c' T' _ _ h; cases h
  | succ f ih =>
    intro left c P T c' T' hT hc h
    rw [mF_tk] at h
    by_cases h1 : left = 0
    · rw [if_pos h1] at h; cases h; exact ⟨hT, hc⟩
    · rw [if_neg h1] at h
      by_cases h2 : nI c < M 0 6
      · rw [if_pos h2] at h
        by_cases h3 : mF_best M L left = -1
        · rw [if_pos h3] at h; cases h
        · rw [if_neg h3] at h
          have hb : vp_in (mF_best M L left) 16 := zin_m1 (zr_best hW L left) (by decide) h3
          have hc2 : c + 1 ≤ 3 := by
            have h6 : (M 0 6).toInt ≤ 3 := (hW 0 6).2
            rw [Int32.lt_iff_toInt_lt, nI_toInt (by omega)] at h2
            omega
          have hT2 : ∀ k, k < c + 1 → vp_in (upd T c (mF_best M L left) k) 16 := by
            intro k hk
            unfold upd
            split
            · exact hb
            · exact hT k (by omega)
          by_cases h4 : 0 < M 1 (ix (M 4 (ix (mF_best M L left))))
          · rw [if_pos h4] at h
            by_cases h5 : P (ix (M 4 (ix (mF_best M L left)))) < M 1 (ix (M 4 (ix (mF_best M L left))))
            · rw [if_pos h5] at h; exact ih _ _ _ _ _ _ hT2 hc2 h
            · rw [if_neg h5] at h; exact ih _ _ _ _ _ _ hT hc h
          · rw [if_neg h4] at h; exact ih _ _ _ _ _ _ hT2 hc2 h
      · rw [if_neg h2] at h; cases h; exact ⟨hT, hc⟩
