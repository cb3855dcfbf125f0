/-! The reference's digest -/
theorem zd_at (σ : zSg) {o q N : Nat} (M : zSg) (f : Nat → Int32) (h : o + N ≤ q) : zwr (zrow σ q f) o N M q = f := by rw [zwr_out _ _ (by omega), zrow_eq]
theorem zd_up (σ : zSg) {o q N : Nat} (M : zSg) (f : Nat → Int32) (i : Nat) (v : Int32) (h : o + N ≤ q) : zup (zwr (zrow σ q f) o N M) q i v = zwr (zrow σ q (upd f i v)) o N M := by
  funext a
  by_cases ha : a = q
  · subst ha
    rw [zup_eq, zd_at _ _ _ h, zd_at _ _ _ h]
  · rw [zup_ne _ _ _ ha]
    funext j
    unfold zwr
    rw [zrow_ne _ _ ha, zrow_ne _ _ ha]
section ZD9
variable {G : zGm} {X : zCx} {own : String} {cc : ByteArray} {nL bc bs : Nat} {S : Nat → Prop} {ly : zLy} {τ : zTu} {σ M : zSg} {pc o q n : Nat} {rf : Nat → Option Nat} {ls : List (Option Value)} {st : List Value} {f : Nat → Int32}
theorem zd_iast (hO : zOk G X own cc nL) (hq : o + 103 ≤ q) (hly : ly q = (1, n, rf)) {i v : Int32} (hin : vp_in i n) (hdg : decode cc pc = .ok (.iastore, 1)) (kk : zV G X nL bc bs S ly τ (zwr (zrow σ q (upd f (ix i) v)) o 103 M) (pc + 1) ls st) : zV G X nL bc bs S ly τ (zwr (zrow σ q f) o 103 M) pc ls (.int v :: .int i :: .ref q :: st) :=
  zr_iast hO hly hin hdg (by rw [zd_up _ _ _ _ _ hq]; exact kk)
theorem zd_ialdN (hO : zOk G X own cc nL) (hq : o + 103 ≤ q) (hly : ly q = (1, n, rf)) {k : Nat} (hk : k < n) (hn : n ≤ 64) (hdg : decode cc pc = .ok (.iaload, 1)) (kk : zV G X nL bc bs S ly τ (zwr (zrow σ q f) o 103 M) (pc + 1) ls (.int (f k) :: st)) : zV G X nL bc bs S ly τ (zwr (zrow σ q f) o 103 M) pc ls (.int (nI k) :: .ref q :: st) :=
  zr_iald hO hly (vp_in_nI hk (by omega)) hdg (by rw [zix (by omega), zd_at _ _ _ hq]; exact kk)
theorem zV_fg {kd : zKd} (hz : ∀ a, n ≤ a → (ly a).1 = 0) (hnq : n ≤ q) (hS : ∀ x, S x → n ≤ x) (k : zV G X nL bc bs (fun x => n ≤ x) ly τ (zwr σ o 103 M) pc ls st) : zV G X nL bc bs S (zlk ly q kd) τ (zwr (zrow σ q f) o 103 M) pc ls st := by
  refine zV_to (ly' := ly) (τ' := τ) (σ' := zwr σ o 103 M) (fun a => ?_) (zV_S hS k)
  by_cases h : a = q
  · exact Or.inl (hz a (by omega))
  · refine Or.inr ⟨(zlk_ne ly _ h).symm, ?_, rfl⟩
    funext j
    unfold zwr
    rw [zrow_ne _ _ h]
end ZD9
def zdr (f : Nat → Int32) (N : Nat) (s : Int64) : Int64 := (List.range N).foldl (fun s i => zdg s (f i)) s
def mD_head (M : zSg) : Nat → Int32 := upd (upd (upd (upd (upd (upd (fun _ => 0) (ix 0) (M 0 1)) (ix 1) (M 0 15)) (ix 2) (M 0 6)) (ix 3) (M 0 11)) (ix 4) (M 0 12)) (ix 5) (mF_stuck M)
def mD_of (M : zSg) (k : Nat) : Nat → Int32 := upd (upd (upd (upd (upd (upd (upd (fun _ => 0) (ix 0) (M 41 k)) (ix 1) (M 42 k)) (ix 2) (M 43 k)) (ix 3) (mF_key M (nI k))) (ix 4) (mF_lent M (nI k))) (ix 5) (M 45 k)) (ix 6) (M 46 k)
def mD_task (M : zSg) (k : Nat) (s : Int64) : Int64 := zdr (M (52 + k)) 5 (zdr (mD_of M k) 7 s)
def mD_proc (M : zSg) (k : Nat) (s : Int64) : Int64 := (List.range 5).foldl (fun s b => zdg s (mF_ran M (nI k) (nI (b + 1)))) (zdg s (M 68 k))
def mD_lock (M : zSg) (k : Nat) (s : Int64) : Int64 := zdg (zdg s (M 101 k)) (mF_those M 4 (nI k))
def mD_event (M : zSg) (k : Nat) (s : Int64) : Int64 := zdg (zdg s (M 102 k)) (mF_those M 5 (nI k))
def mF_digest (M : zSg) : Int64 :=
  let s1 := zdr (mD_head M) 6 58049
  let s2 := (List.range (ix (M 0 15))).foldl (fun s i => mD_task M i s) s1
  let s3 := (List.range (ix (M 0 6))).foldl (fun s i => mD_proc M i s) s2
  let s4 := zdr (M 2) 4 s3
  let s5 := (List.range 6).foldl (fun s i => mD_lock M i s) s4
  (List.range 6).foldl (fun s i => mD_event M i s) s5
