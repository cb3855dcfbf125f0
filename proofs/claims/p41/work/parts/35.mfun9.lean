/-! A copy of the reference -/
def mF_rc (M : zSg) (f n : Nat) (s : zSg) : zSg := zrow s f (fun j => if j < n then M f j else s f j)
def mCP (k : Nat) : Nat := match k with
  | 0 => 1 | 1 => 2 | 2 => 3 | 3 => 4 | 4 => 5 | 5 => 6 | 6 => 41 | 7 => 42 | 8 => 43 | 9 => 44 | 10 => 45 | 11 => 46 | 12 => 47 | 13 => 48 | 14 => 49 | 15 => 50 | 16 => 68 | 17 => 69 | 18 => 101 | _ => 102
def mCN (k : Nat) : Nat := match k with
  | 0 => 4 | 1 => 4 | 16 => 3 | 17 => 3 | 18 => 6 | 19 => 6 | _ => 16
theorem mCP_mk (o : Nat) : ∀ k, k < 20 → mCP k < 103 ∧ mCN k < 64 ∧ zmk o (mCP k) = (1, mCN k, znr) := by
  intro k hk
  match k, hk with
  | 0, _ => exact ⟨by decide, by decide, rfl⟩
  | 1, _ => exact ⟨by decide, by decide, rfl⟩
  | 2, _ => exact ⟨by decide, by decide, rfl⟩
  | 3, _ => exact ⟨by decide, by decide, rfl⟩
  | 4, _ => exact ⟨by decide, by decide, rfl⟩
  | 5, _ => exact ⟨by decide, by decide, rfl⟩
  | 6, _ => exact ⟨by decide, by decide, rfl⟩
  | 7, _ => exact ⟨by decide, by decide, rfl⟩
  | 8, _ => exact ⟨by decide, by decide, rfl⟩
  | 9, _ => exact ⟨by decide, by decide, rfl⟩
  | 10, _ => exact ⟨by decide, by decide, rfl⟩
  | 11, _ => exact ⟨by decide, by decide, rfl⟩
  | 12, _ => exact ⟨by decide, by decide, rfl⟩
  | 13, _ => exact ⟨by decide, by decide, rfl⟩
  | 14, _ => exact ⟨by decide, by decide, rfl⟩
  | 15, _ => exact ⟨by decide, by decide, rfl⟩
  | 16, _ => exact ⟨by decide, by decide, rfl⟩
  | 17, _ => exact ⟨by decide, by decide, rfl⟩
  | 18, _ => exact ⟨by decide, by decide, rfl⟩
  | 19, _ => exact ⟨by decide, by decide, rfl⟩
  | k + 20, h => exact absurd h (by omega)
def mF_cset (M : zSg) : zSg := zup (zup (zup (zup (zup (zup (zup (zup (zup mF_new 0 1 (M 0 1)) 0 2 (M 0 2)) 0 3 (M 0 3)) 0 4 (M 0 4)) 0 5 (M 0 5)) 0 6 (M 0 6)) 0 9 (M 0 9)) 0 10 (M 0 10)) 0 15 (M 0 15)
def mB_ct (M : zSg) (k : Nat) (s : zSg) : zSg := mF_rc M (52 + k) 5 (mF_rc M (25 + k) 16 (mF_rc M (8 + k) 16 s))
def mF_crow (M : zSg) : zSg := (List.range 20).foldl (fun s i => mF_rc M (mCP i) (mCN i) s) (mF_cset M)
def mF_copy (M : zSg) : zSg := (List.range (ix (M 0 15))).foldl (fun s i => mB_ct M i s) (mF_crow M)
theorem zlk_zlk (ly : zLy) (a : Nat) (k1 k2 : zKd) : zlk (zlk ly a k1) a k2 = zlk ly a k2 := by
  funext x
  unfold zlk
  split <;> rfl
theorem zwr_one (σ : zSg) (q : Nat) (r : Nat → Int32) : zrow σ q r = zwr σ q 1 (fun _ => r) := by
  funext a
  unfold zwr
  by_cases h : a = q
  · subst h
    rw [zrow_eq]
    funext j
    rw [if_pos (by omega)]
  · rw [zrow_ne _ _ h]
    funext j
    rw [if_neg (by omega)]
theorem zwr_cp2 (σ : zSg) {o q f n : Nat} {M M' : zSg} {x : Int32} (hq : o + 103 ≤ q) (hf : f < 103) (hx : ix x = n) : zrow (zwr (zwr σ o 103 M) q 103 M') (q + f) (va_cpy (zwr (zwr σ o 103 M) q 103 M' (o + f)) (zwr (zwr σ o 103 M) q 103 M' (q + f)) (ix 0) (ix 0) (ix x)) = zwr (zwr σ o 103 M) q 103 (mF_rc M f n M') := by
  funext a
  by_cases ha : a = q + f
  · subst ha
    rw [zrow_eq]
    funext j
    rw [zwr_in _ _ j hf]
    unfold va_cpy mF_rc
    rw [zrow_eq, hx, show (ix 0 : Nat) = 0 from rfl, zwr_in _ _ j hf]
    by_cases hj : j < n
    · rw [if_pos (by omega), if_pos hj, show 0 + (j - 0) = j by omega, zwr_out _ _ (by omega), zwr_in _ _ j hf]
    · rw [if_neg (by omega), if_neg hj]
  · rw [zrow_ne _ _ ha]
    funext j
    unfold zwr mF_rc
    by_cases h1 : q ≤ a ∧ a < q + 103
    · rw [if_pos h1, if_pos h1, zrow_ne _ _ (by omega)]
    · rw [if_neg h1, if_neg h1]
section ZCP
variable {G : zGm} {X : zCx} {own : String} {cc : ByteArray} {nL bc bs : Nat} {S : Nat → Prop} {ly lyB : zLy} {τ : zTu} {σ M M' : zSg} {pc o q : Nat} {ls : List (Option Value)} {st : List Value}
theorem zq_getfi (hO : zOk G X own cc nL) (hq : o + 103 ≤ q) {index k : Nat} (hM : zM ly o) (hk : k < zN 7) (hw : (Cond.fieldLink own index (zRn 7) (zT 7 k).2.1 (zT 7 k).2.2.1) ∈ lw_tbl) (hty : zty 7 k = .int) (hdg : decode cc pc = .ok (.getfield index, 3)) (kk : zV G X nL bc bs S ly τ (zwr (zwr σ o 103 M) q 103 M') (pc + 3) ls (.int (M 0 k) :: st)) : zV G X nL bc bs S ly τ (zwr (zwr σ o 103 M) q 103 M') pc ls (.ref o :: st) :=
  zr_getfi hO (by decide) hk hw (zM_0 hM) hty hdg (by rw [zwr_out _ _ (by omega), zwr_in0 _ _ _ (by decide)]; exact kk)
theorem zq_aast (hO : zOk G X own cc nL) {a r n' : Nat} {rf rf' : Nat → Option Nat} (hne : r ≠ a) (hlr : lyB r = (1, n', rf')) {i : Int32} (hin : vp_in i 20) (hdg : decode cc pc = .ok (.aastore, 1)) (kk : zV G X nL bc bs S (zlk lyB a (3, 20, zrf rf (ix i) (some r))) τ σ (pc + 1) ls st) : zV G X nL bc bs S (zlk lyB a (3, 20, rf)) τ σ pc ls (.ref r :: .int i :: .ref a :: st) :=
  zr_aastI hO (zlk_eq _ _ _) (by rw [zlk_ne _ _ hne]; exact hlr) hin hdg (by rw [zlk_zlk]; exact kk)
end ZCP
def mCR (o : Nat) : Nat → Option Nat := fun k => if k < 20 then some (o + mCP k) else none
theorem mCR_at {o k : Nat} (h : k < 20) : mCR o (ix (nI k)) = some (o + mCP k) := by rw [zix (by omega)]; exact if_pos h
theorem mCR_ch (o : Nat) : (zrf (zrf (zrf (zrf (zrf (zrf (zrf (zrf (zrf (zrf (zrf (zrf (zrf (zrf (zrf (zrf (zrf (zrf (zrf (zrf znr (ix 0) (some (o + 1))) (ix 1) (some (o + 2))) (ix 2) (some (o + 3))) (ix 3) (some (o + 4))) (ix 4) (some (o + 5))) (ix 5) (some (o + 6))) (ix 6) (some (o + 41))) (ix 7) (some (o + 42))) (ix 8) (some (o + 43))) (ix 9) (some (o + 44))) (ix 10) (some (o + 45))) (ix 11) (some (o + 46))) (ix 12) (some (o + 47))) (ix 13) (some (o + 48))) (ix 14) (some (o + 49))) (ix 15) (some (o + 50))) (ix 16) (some (o + 68))) (ix 17) (some (o + 69))) (ix 18) (some (o + 101))) (ix 19) (some (o + 102))) = mCR o := by
  funext k
  match k with
  | 0 => rfl
  | 1 => rfl
  | 2 => rfl
  | 3 => rfl
  | 4 => rfl
  | 5 => rfl
  | 6 => rfl
  | 7 => rfl
  | 8 => rfl
  | 9 => rfl
  | 10 => rfl
  | 11 => rfl
  | 12 => rfl
  | 13 => rfl
  | 14 => rfl
  | 15 => rfl
  | 16 => rfl
  | 17 => rfl
  | 18 => rfl
  | 19 => rfl
  | k + 20 => simp [zrf, mCR, znr, show (ix 0 : Nat) = 0 from rfl, show (ix 1 : Nat) = 1 from rfl, show (ix 2 : Nat) = 2 from rfl, show (ix 3 : Nat) = 3 from rfl, show (ix 4 : Nat) = 4 from rfl, show (ix 5 : Nat) = 5 from rfl, show (ix 6 : Nat) = 6 from rfl, show (ix 7 : Nat) = 7 from rfl, show (ix 8 : Nat) = 8 from rfl, show (ix 9 : Nat) = 9 from rfl, show (ix 10 : Nat) = 10 from rfl, show (ix 11 : Nat) = 11 from rfl, show (ix 12 : Nat) = 12 from rfl, show (ix 13 : Nat) = 13 from rfl, show (ix 14 : Nat) = 14 from rfl, show (ix 15 : Nat) = 15 from rfl, show (ix 16 : Nat) = 16 from rfl, show (ix 17 : Nat) = 17 from rfl, show (ix 18 : Nat) = 18 from rfl, show (ix 19 : Nat) = 19 from rfl]
