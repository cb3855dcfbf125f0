/-! The class: a machine copied into another one -/
theorem zwr_cp3 (σ : zSg) {o q f n : Nat} {A B : zSg} {x : Int32} (hq : o + 95 ≤ q) (hf : f < 95) (hx : ix x = n) : zrow (zwr (zwr σ o 95 A) q 95 B) (q + f) (va_cpy (zwr (zwr σ o 95 A) q 95 B (o + f)) (zwr (zwr σ o 95 A) q 95 B (q + f)) (ix 0) (ix 0) (ix x)) = zwr (zwr σ o 95 A) q 95 (mF_rc A f n B) := by
  funext a
  by_cases ha : a = q + f
  · subst ha
    rw [zrow_eq]
    funext j
    rw [zwr_in _ _ j hf]
    unfold va_cpy mF_rc
    rw [zrow_eq, hx, show (ix 0 : Nat) = 0 from rfl, zwr_in _ _ j hf]
    by_cases hj : j < n
    · rw [if_pos (by omega), if_pos hj, show 0 + (j - 0) = j by omega, zwr_out _ _ (by omega), zwr_in _ _ j hf]
    · rw [if_neg (by omega), if_neg hj]
  · rw [zrow_ne _ _ ha]
    funext j
    unfold zwr mF_rc
    by_cases h1 : q ≤ a ∧ a < q + 95
    · rw [if_pos h1, if_pos h1, zrow_ne _ _ (by omega)]
    · rw [if_neg h1, if_neg h1]
section ZY9
variable {G : zGm} {X : zCx} {own : String} {cc : ByteArray} {nL bc bs : Nat} {S : Nat → Prop} {ly : zLy} {τ : zTu} {σ A B : zSg} {pc o q f : Nat} {ls : List (Option Value)} {st : List Value}
theorem zy_getfi (hO : zOk G X own cc nL) (hq : o + 95 ≤ q) {index c k n : Nat} {rf : Nat → Option Nat} (hly : ly (o + f) = (c + 5, n, rf)) (hf : f < 95) (hc : c < 8) (hk : k < zN c) (hw : (Cond.fieldLink own index (zRn c) (zT c k).2.1 (zT c k).2.2.1) ∈ lw_tbl) (hty : zty c k = .int) (hdg : decode cc pc = .ok (.getfield index, 3)) (kk : zV G X nL bc bs S ly τ (zwr (zwr σ o 95 A) q 95 B) (pc + 3) ls (.int (A f k) :: st)) : zV G X nL bc bs S ly τ (zwr (zwr σ o 95 A) q 95 B) pc ls (.ref (o + f) :: st) :=
  zr_getfi hO hc hk hw hly hty hdg (by rw [zwr_out _ _ (by omega), zwr_in _ _ _ hf]; exact kk)
theorem zy_getfi0 (hO : zOk G X own cc nL) (hq : o + 95 ≤ q) {index c k n : Nat} {rf : Nat → Option Nat} (hly : ly o = (c + 5, n, rf)) (hc : c < 8) (hk : k < zN c) (hw : (Cond.fieldLink own index (zRn c) (zT c k).2.1 (zT c k).2.2.1) ∈ lw_tbl) (hty : zty c k = .int) (hdg : decode cc pc = .ok (.getfield index, 3)) (kk : zV G X nL bc bs S ly τ (zwr (zwr σ o 95 A) q 95 B) (pc + 3) ls (.int (A 0 k) :: st)) : zV G X nL bc bs S ly τ (zwr (zwr σ o 95 A) q 95 B) pc ls (.ref o :: st) :=
  zr_getfi hO hc hk hw hly hty hdg (by rw [zwr_out _ _ (by omega), zwr_in0 _ _ _ (by decide)]; exact kk)
end ZY9
def cC1 (A : zSg) (i : Nat) (B : zSg) : zSg := mF_rc A (ztk i + 3) 16 (mF_rc A (ztk i + 2) 16 (zup (zup B (ztk i + 1) 0 (A (ztk i + 1) 0)) (ztk i + 1) 1 (A (ztk i + 1) 1)))
def cC2 (A B : zSg) : zSg := mF_rc A 2 4 (zup (zup (zup (zup (zup B 1 0 (A 1 0)) 1 1 (A 1 1)) 1 2 (A 1 2)) 1 3 (A 1 3)) 1 4 (A 1 4))
def cC3 (A : zSg) (i : Nat) (B : zSg) : zSg := zup (zup (zup (zup (zup B (ztk i + 4) 0 (A (ztk i + 4) 0)) (ztk i + 4) 1 (A (ztk i + 4) 1)) (ztk i + 4) 2 (A (ztk i + 4) 2)) (ztk i + 4) 3 (A (ztk i + 4) 3)) (ztk i + 4) 4 (A (ztk i + 4) 4)
def cC4 (A : zSg) (i : Nat) (B : zSg) : zSg := (zup (zup (zup (zup (zup (zup (zup (zup (zup (zup (zup (zup (zup (cC3 A i (cC1 A i B)) (ztk i) 3 (A (ztk i) 3)) (ztk i) 4 (A (ztk i) 4)) (ztk i) 5 (A (ztk i) 5)) (ztk i) 6 (A (ztk i) 6)) (ztk i) 7 (A (ztk i) 7)) (ztk i) 8 (A (ztk i) 8)) (ztk i) 9 (A (ztk i) 9)) (ztk i) 10 (A (ztk i) 10)) (ztk i) 11 (A (ztk i) 11)) (ztk i) 12 (A (ztk i) 12)) (ztk i) 13 (A (ztk i) 13)) (ztk i) 14 (A (ztk i) 14)) (ztk i) 15 (A (ztk i) 15))
def cC5 (A B : zSg) : zSg := (List.range 3).foldl (fun s p => mF_rc A (5 + p) 30 s) (zup (zup (zup B 3 0 (A 3 0)) 3 1 (A 3 1)) 3 2 (A 3 2))
def cC0 (A B : zSg) : zSg := (zup (zup (zup (zup (mF_rc A 12 3 (mF_rc A 11 6 (mF_rc A 10 6 (mF_rc A 9 4 ((List.range 16).foldl (fun s i => cC4 A i s) (cC5 A (cC2 A B))))))) 0 9 (A 0 9)) 0 10 (A 0 10)) 0 11 (A 0 11)) 0 12 (A 0 12))
