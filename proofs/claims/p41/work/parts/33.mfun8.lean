/-! Making the reference: cells one behind the other -/
theorem zwr_cg (σ : zSg) {o N : Nat} {M M' : zSg} (h : ∀ f, f < N → M f = M' f) : zwr σ o N M = zwr σ o N M' := by
  funext a
  unfold zwr
  funext j
  split
  · rw [h (a - o) (by omega)]
  · rfl
theorem zwr_push (σ : zSg) (o m : Nat) (M : zSg) (r : Nat → Int32) : zrow (zwr σ o m M) (o + m) r = zwr σ o (m + 1) (zrow M m r) := by
  funext a
  by_cases ha : a = o + m
  · subst ha
    rw [zrow_eq]
    funext j
    rw [zwr_in (f := m) σ _ j (by omega), zrow_eq]
  · rw [zrow_ne _ _ ha]
    funext j
    unfold zwr
    by_cases h : o ≤ a ∧ a < o + m
    · rw [if_pos h, if_pos (by omega), zrow_ne _ _ (by omega)]
    · rw [if_neg h, if_neg (by omega)]
theorem zV_tc {G : zGm} {X : zCx} {nL bc bs : Nat} {S : Nat → Prop} {ly ly' : zLy} {τ τ' : zTu} {σ σ' : zSg} {pc : Nat} {ls : List (Option Value)} {st : List Value} (hc : ∀ a, zcell G (ly' a) (σ' a) (τ' a) = none ∨ zcell G (ly' a) (σ' a) (τ' a) = zcell G (ly a) (σ a) (τ a)) (k : zV G X nL bc bs S ly' τ' σ' pc ls st) : zV G X nL bc bs S ly τ σ pc ls st := by
  obtain ⟨p, l, e, R, s, m, args, below, meth, c, Q⟩ := X
  refine fun H locs cells slots la hR => k H locs cells slots la ⟨hR.1, fun a e he => ?_⟩
  rcases hc a with h | h
  · rw [h] at he; cases he
  · rw [h] at he; exact hR.2 a e he
def zBI (mk : Nat → zKd) (o m c n : Nat) (rf : Nat → Option Nat) (ly0 ly1 : zLy) : Prop := ly1 o = (c + 5, n, rf) ∧ (∀ f, 0 < f → f < m → ly1 (o + f) = mk f) ∧ (∀ a, a < o ∨ o + m ≤ a → ly1 a = ly0 a)
section ZBI
variable {G : zGm} {X : zCx} {own : String} {cc : ByteArray} {nL bc bs : Nat} {ly ly1 : zLy} {τ : zTu} {σ M : zSg} {pc o m c n : Nat} {mk : Nat → zKd} {rf : Nat → Option Nat} {ls : List (Option Value)} {st : List Value}
theorem zi_new (hO : zOk G X own cc nL) (hB : zBI mk o m c n rf ly ly1) (hm0 : 0 < m) {x : Int32} {N : Nat} (hmk : mk m = (1, N, znr)) (hn : ¬ x < 0) (hN : ix x = N) (hNb : N ≤ 1000) (hb1 : 1 ≤ bc) (hb2 : N ≤ bs) (hz : M m = fun _ => 0) (hdg : decode cc pc = .ok (.newarray .int, 2))
    (kk : ∀ ly2, zBI mk o (m + 1) c n rf ly ly2 → zV G X nL (bc - 1) (bs - N) (fun z => z = o + (m + 1)) ly2 τ (zwr σ o (m + 1) M) (pc + 2) ls (.ref (o + m) :: st)) : zV G X nL bc bs (fun z => z = o + m) ly1 τ (zwr σ o m M) pc ls (.int x :: st) := by
  refine zr_newI hO hn hN hNb hb1 hb2 hdg (fun q hq => ?_)
  subst hq
  rw [zwr_push, zwr_cg (M' := M) σ (fun f hf => by
    by_cases h : f = m
    · subst h; rw [zrow_eq, hz]
    · rw [zrow_ne _ _ h])]
  refine kk _ ⟨?_, fun f h0 h1 => ?_, fun a ha => ?_⟩
  · rw [zlk_ne _ _ (by omega)]; exact hB.1
  · by_cases h : f = m
    · subst h; rw [zlk_eq, hmk]
    · rw [zlk_ne _ _ (by omega)]; exact hB.2.1 f h0 (by omega)
  · rw [zlk_ne _ _ (by omega)]; exact hB.2.2 a (by omega)
theorem zi_put (hO : zOk G X own cc nL) (hin : match X with | (p, l, e, R, s, m, args, below, meth, c, Q) => meth.name = "<init>") {bc bs : Nat} {S : Nat → Prop} (hB : zBI mk o m c n rf ly ly1) (hm0 : 0 < m) {index k r : Nat} (hc : c < 8) (hk : k < zN c) (hwo : own = zRn c) (hw : (Cond.fieldLink own index (zRn c) (zT c k).2.1 (zT c k).2.2.1) ∈ lw_tbl) (hfin : (zT c k).2.2.2 = true) (hty : zisr (zty c k) = true) (hd : narrow (zty c k) (.ref r) = .ref r ∧ fits (zty c k) (.ref r) = true) (hdg : decode cc pc = .ok (.putfield index, 3))
    (kk : ∀ ly2, zBI mk o m c n (zrf rf k (some r)) ly ly2 → zV G X nL bc bs S ly2 τ σ (pc + 3) ls st) : zV G X nL bc bs S ly1 τ σ pc ls (.ref r :: .ref o :: st) := by
  refine zr_putfF hO hin hc hk hwo hw hB.1 hfin hty hd hdg (kk _ ⟨zlk_eq _ _ _, fun f h0 h1 => ?_, fun a ha => ?_⟩)
  · rw [zlk_ne _ _ (by omega)]; exact hB.2.1 f h0 h1
  · rw [zlk_ne _ _ (by omega)]; exact hB.2.2 a ha
theorem zi_mul (hO : zOk G X own cc nL) (hB : zBI mk o m c n rf ly ly1) (hm0 : 0 < m) {index : Nat} {x y : Int32} {N K : Nat} (hw : Cond.classLink own index ("[" ++ (FieldType.array .int).toString) ∈ lw_tbl) (g1 : ¬ x < 0) (g2 : ¬ y < 0) (hN : ix x = N) (hK9 : ix y = K) (hNb : N ≤ 1000) (hKb : K ≤ 1000) (hb1 : 1 + N ≤ bc) (hb2 : N + N * K ≤ bs)
    (hmk : mk m = (3, N, zrows o (m + 1) N)) (hmr : ∀ f, m < f → f < m + 1 + N → mk f = (1, K, znr)) (hz : ∀ f, m < f → f < m + 1 + N → M f = fun _ => 0) (hdg : decode cc pc = .ok (.multianewarray index 2, 4))
    (kk : ∀ ly2, zBI mk o (m + 1 + N) c n rf ly ly2 → zV G X nL (bc - (1 + N)) (bs - (N + N * K)) (fun z => z = o + (m + 1 + N)) ly2 τ (zwr σ o (m + 1 + N) M) (pc + 4) ls (.ref (o + m) :: st)) : zV G X nL bc bs (fun z => z = o + m) ly1 τ (zwr σ o m M) pc ls (.int y :: .int x :: st) := by
  refine zr_multi hO hw g1 g2 hN hK9 hNb hKb hb1 hb2 hdg (fun q hq => ?_)
  subst hq
  have e : zmulS (zwr σ o m M) (o + m) N = zwr σ o (m + 1 + N) (zrow M m (σ (o + m))) := by
    funext a
    by_cases h1 : a < o ∨ o + (m + 1 + N) ≤ a
    · rw [zwr_out _ _ h1]
      unfold zmulS
      rw [if_neg (by omega), zwr_out _ _ (by omega)]
    · obtain ⟨f, rfl⟩ : ∃ f, a = o + f := ⟨a - o, by omega⟩
      have hf : f < m + 1 + N := by omega
      funext j
      rw [zwr_in σ _ j hf]
      unfold zmulS
      by_cases h2 : m < f
      · rw [if_pos (by omega), zrow_ne _ _ (by omega), hz f h2 hf]
      · rw [if_neg (by omega)]
        by_cases h3 : f = m
        · subst h3
          rw [zrow_eq, zwr_out _ _ (by omega)]
        · rw [zrow_ne _ _ h3, zwr_in σ _ j (by omega)]
  rw [e, show o + m + 1 + N = o + (m + 1 + N) by omega]
  refine zV_tc (ly' := zmul ly1 (o + m) N K) (τ' := τ) (σ' := zwr σ o (m + 1 + N) M) (fun a => ?_) (kk _ ⟨?_, fun f h0 h1 => ?_, fun a ha => ?_⟩)
  · right
    by_cases h : a = o + m
    · subst h
      unfold zmul
      rw [if_pos rfl]
      rfl
    · congr 1
      funext j
      unfold zwr
      split
      · rw [zrow_ne _ _ (by omega)]
      · rfl
  · unfold zmul; rw [if_neg (by omega), if_neg (by omega)]; exact hB.1
  · by_cases h : f = m
    · subst h
      unfold zmul
      rw [if_pos rfl, hmk]
      congr 2
      funext j
      unfold zrows
      split
      · congr 1; omega
      · rfl
    · by_cases h2 : m < f
      · unfold zmul
        rw [if_neg (by omega), if_pos (by omega), hmr f h2 h1]
      · unfold zmul
        rw [if_neg (by omega), if_neg (by omega)]
        exact hB.2.1 f h0 (by omega)
  · unfold zmul
    rw [if_neg (by omega), if_neg (by omega)]
    exact hB.2.2 a (by omega)
end ZBI
/-- the reference, new: σ0 stands for what rows of references hold, which is nobody's business -/
def mF_new : zSg := fun f j => match f with
  | 0 => (match j with | 3 => 3 | 5 => 10 | 6 => 1 | _ => 0)
  | 68 => if j < 3 then -1 else 0
  | 101 => if j < 6 then -1 else 0
  | _ => 0
