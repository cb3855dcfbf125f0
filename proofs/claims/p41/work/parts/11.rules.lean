/-! One instruction, one row: what the kit's rows say of the machine, said of the walk zV. -/
abbrev ix (x : Int32) : Nat := x.toNatClampNeg
def zb (b : Bool) : Int32 := if b then 1 else 0
theorem zb_t : zb true = 1 := rfl
theorem zb_f : zb false = 0 := rfl
theorem zb_0 (b : Bool) : zb b = 0 ↔ b = false := by cases b <;> decide
/-- one int of a cell is written -/
def zup (σ : zSg) (a k : Nat) (v : Int32) : zSg := fun x j => if x = a then (if j = k then v else σ x j) else σ x j
def zupL (τ : zTu) (a k : Nat) (v : Int64) : zTu := fun x j => if x = a then (if j = k then v else τ x j) else τ x j
def zlk (ly : zLy) (a : Nat) (kd : zKd) : zLy := fun x => if x = a then kd else ly x
def zrf (r : Nat → Option Nat) (k : Nat) (v : Option Nat) : Nat → Option Nat := fun j => if j = k then v else r j
theorem zup_eq (σ : zSg) (a k : Nat) (v : Int32) : zup σ a k v a = upd (σ a) k v := by
  funext j
  simp [zup, upd]
theorem zup_ne (σ : zSg) {a x : Nat} (k : Nat) (v : Int32) (h : x ≠ a) : zup σ a k v x = σ x := by
  funext j
  simp [zup, h]
theorem zupL_eq (τ : zTu) (a k : Nat) (v : Int64) : zupL τ a k v a = vp_updL (τ a) k v := by
  funext j
  simp [zupL, vp_updL]
theorem zupL_ne (τ : zTu) {a x : Nat} (k : Nat) (v : Int64) (h : x ≠ a) : zupL τ a k v x = τ x := by
  funext j
  simp [zupL, h]
theorem zlk_eq (ly : zLy) (a : Nat) (kd : zKd) : zlk ly a kd a = kd := by simp [zlk]
theorem zlk_ne (ly : zLy) {a x : Nat} (kd : zKd) (h : x ≠ a) : zlk ly a kd x = ly x := by simp [zlk, h]
theorem zT_own {c k : Nat} (hc : c < 8) (hk : k < zN c) : (zT c k).1 = zRn c := by
  match c, hc with
  | 0, _ => exact (show ∀ k, k < 13 → (TX0 k).1 = RX0 by decide +kernel) k hk
  | 1, _ => exact (show ∀ k, k < 4 → (TX1 k).1 = RX1 by decide +kernel) k hk
  | 2, _ => exact (show ∀ k, k < 6 → (TX2 k).1 = RX2 by decide +kernel) k hk
  | 3, _ => exact (show ∀ k, k < 5 → (TX3 k).1 = RX3 by decide +kernel) k hk
  | 4, _ => exact (show ∀ k, k < 16 → (TX4 k).1 = RX4 by decide +kernel) k hk
  | 5, _ => exact (show ∀ k, k < 4 → (TX5 k).1 = RX5 by decide +kernel) k hk
  | 6, _ => exact (show ∀ k, k < 2 → (TX6 k).1 = RX6 by decide +kernel) k hk
  | 7, _ => exact (show ∀ k, k < 2 → (TX6 k).1 = RX6 by decide +kernel) k hk
  | n + 8, h => exact absurd h (by omega)
section ZR
variable {G : zGm} {X : zCx} {own : String} {cc : ByteArray} {nL bc bs : Nat} {S : Nat → Prop} {ly : zLy} {τ : zTu} {σ : zSg} {pc : Nat} {ls : List (Option Value)} {st : List Value}
variable {l0 l1 l2 l3 l4 l5 l6 l7 l8 : Option Value}
theorem zr_iconst (hO : zOk G X own cc nL) {n : Int} {v : Int32} (hdg : decode cc pc = .ok (.iconst n, 1)) (hv : Int32.ofInt n = v) (k : zV G X nL bc bs S ly τ σ (pc + 1) ls (.int v :: st)) : zV G X nL bc bs S ly τ σ pc ls (st) := by
  obtain ⟨p, l, e, R, s, m, args, below, meth, c0, Q⟩ := X
  obtain ⟨hx, hb, hml, hown, hts, hlk, hK, htr⟩ := hO
  intro H locs cells slots la hR hS h1 h2 hl
  exact lv_iconst hx hb hdg hv (k H locs cells slots la hR hS h1 h2 hl)
theorem zr_bipush (hO : zOk G X own cc nL) {n : Int} {v : Int32} (hdg : decode cc pc = .ok (.bipush n, 2)) (hv : (Int8.ofInt n).toInt32 = v) (k : zV G X nL bc bs S ly τ σ (pc + 2) ls (.int v :: st)) : zV G X nL bc bs S ly τ σ pc ls (st) := by
  obtain ⟨p, l, e, R, s, m, args, below, meth, c0, Q⟩ := X
  obtain ⟨hx, hb, hml, hown, hts, hlk, hK, htr⟩ := hO
  intro H locs cells slots la hR hS h1 h2 hl
  exact lv_bipush hx hb hdg hv (k H locs cells slots la hR hS h1 h2 hl)
theorem zr_sipush (hO : zOk G X own cc nL) {n : Int} {v : Int32} (hdg : decode cc pc = .ok (.sipush n, 3)) (hv : (Int16.ofInt n).toInt32 = v) (k : zV G X nL bc bs S ly τ σ (pc + 3) ls (.int v :: st)) : zV G X nL bc bs S ly τ σ pc ls (st) := by
  obtain ⟨p, l, e, R, s, m, args, below, meth, c0, Q⟩ := X
  obtain ⟨hx, hb, hml, hown, hts, hlk, hK, htr⟩ := hO
  intro H locs cells slots la hR hS h1 h2 hl
  exact lv_sipush hx hb hdg hv (k H locs cells slots la hR hS h1 h2 hl)
theorem zr_dconst0 (hO : zOk G X own cc nL) (hdg : decode cc pc = .ok (.dconst 0, 1)) (k : zV G X nL bc bs S ly τ σ (pc + 1) ls (.double 0 :: st)) : zV G X nL bc bs S ly τ σ pc ls (st) := by
  obtain ⟨p, l, e, R, s, m, args, below, meth, c0, Q⟩ := X
  obtain ⟨hx, hb, hml, hown, hts, hlk, hK, htr⟩ := hO
  intro H locs cells slots la hR hS h1 h2 hl
  exact lv_dconst0 hx hb hdg (k H locs cells slots la hR hS h1 h2 hl)
theorem zr_null (hO : zOk G X own cc nL) (hdg : decode cc pc = .ok (.aconst_null, 1)) (k : zV G X nL bc bs S ly τ σ (pc + 1) ls (.null :: st)) : zV G X nL bc bs S ly τ σ pc ls (st) := by
  obtain ⟨p, l, e, R, s, m, args, below, meth, c0, Q⟩ := X
  obtain ⟨hx, hb, hml, hown, hts, hlk, hK, htr⟩ := hO
  intro H locs cells slots la hR hS h1 h2 hl
  exact lv_null hx hb hdg (k H locs cells slots la hR hS h1 h2 hl)
theorem zr_iadd (hO : zOk G X own cc nL) {x y : Int32} (hdg : decode cc pc = .ok (.iadd, 1)) (k : zV G X nL bc bs S ly τ σ (pc + 1) ls (.int (x + y) :: st)) : zV G X nL bc bs S ly τ σ pc ls (.int y :: .int x :: st) := by
  obtain ⟨p, l, e, R, s, m, args, below, meth, c0, Q⟩ := X
  obtain ⟨hx, hb, hml, hown, hts, hlk, hK, htr⟩ := hO
  intro H locs cells slots la hR hS h1 h2 hl
  exact lv_iadd hx hb hdg (k H locs cells slots la hR hS h1 h2 hl)
theorem zr_isub (hO : zOk G X own cc nL) {x y : Int32} (hdg : decode cc pc = .ok (.isub, 1)) (k : zV G X nL bc bs S ly τ σ (pc + 1) ls (.int (x - y) :: st)) : zV G X nL bc bs S ly τ σ pc ls (.int y :: .int x :: st) := by
  obtain ⟨p, l, e, R, s, m, args, below, meth, c0, Q⟩ := X
  obtain ⟨hx, hb, hml, hown, hts, hlk, hK, htr⟩ := hO
  intro H locs cells slots la hR hS h1 h2 hl
  exact lv_isub hx hb hdg (k H locs cells slots la hR hS h1 h2 hl)
theorem zr_iand (hO : zOk G X own cc nL) {x y : Int32} (hdg : decode cc pc = .ok (.iand, 1)) (k : zV G X nL bc bs S ly τ σ (pc + 1) ls (.int (x &&& y) :: st)) : zV G X nL bc bs S ly τ σ pc ls (.int y :: .int x :: st) := by
  obtain ⟨p, l, e, R, s, m, args, below, meth, c0, Q⟩ := X
  obtain ⟨hx, hb, hml, hown, hts, hlk, hK, htr⟩ := hO
  intro H locs cells slots la hR hS h1 h2 hl
  exact lv_iand hx hb hdg (k H locs cells slots la hR hS h1 h2 hl)
theorem zr_ior (hO : zOk G X own cc nL) {x y : Int32} (hdg : decode cc pc = .ok (.ior, 1)) (k : zV G X nL bc bs S ly τ σ (pc + 1) ls (.int (x ||| y) :: st)) : zV G X nL bc bs S ly τ σ pc ls (.int y :: .int x :: st) := by
  obtain ⟨p, l, e, R, s, m, args, below, meth, c0, Q⟩ := X
  obtain ⟨hx, hb, hml, hown, hts, hlk, hK, htr⟩ := hO
  intro H locs cells slots la hR hS h1 h2 hl
  exact lv_ior hx hb hdg (k H locs cells slots la hR hS h1 h2 hl)
theorem zr_ixor (hO : zOk G X own cc nL) {x y : Int32} (hdg : decode cc pc = .ok (.ixor, 1)) (k : zV G X nL bc bs S ly τ σ (pc + 1) ls (.int (x ^^^ y) :: st)) : zV G X nL bc bs S ly τ σ pc ls (.int y :: .int x :: st) := by
  obtain ⟨p, l, e, R, s, m, args, below, meth, c0, Q⟩ := X
  obtain ⟨hx, hb, hml, hown, hts, hlk, hK, htr⟩ := hO
  intro H locs cells slots la hR hS h1 h2 hl
  exact lv_ixor hx hb hdg (k H locs cells slots la hR hS h1 h2 hl)
theorem zr_ishl (hO : zOk G X own cc nL) {x y : Int32} (hdg : decode cc pc = .ok (.ishl, 1)) (k : zV G X nL bc bs S ly τ σ (pc + 1) ls (.int (x <<< (y &&& 31)) :: st)) : zV G X nL bc bs S ly τ σ pc ls (.int y :: .int x :: st) := by
  obtain ⟨p, l, e, R, s, m, args, below, meth, c0, Q⟩ := X
  obtain ⟨hx, hb, hml, hown, hts, hlk, hK, htr⟩ := hO
  intro H locs cells slots la hR hS h1 h2 hl
  exact lv_ishl hx hb hdg (k H locs cells slots la hR hS h1 h2 hl)
theorem zr_ishr (hO : zOk G X own cc nL) {x y : Int32} (hdg : decode cc pc = .ok (.ishr, 1)) (k : zV G X nL bc bs S ly τ σ (pc + 1) ls (.int (x >>> (y &&& 31)) :: st)) : zV G X nL bc bs S ly τ σ pc ls (.int y :: .int x :: st) := by
  obtain ⟨p, l, e, R, s, m, args, below, meth, c0, Q⟩ := X
  obtain ⟨hx, hb, hml, hown, hts, hlk, hK, htr⟩ := hO
  intro H locs cells slots la hR hS h1 h2 hl
  exact lv_ishr hx hb hdg (k H locs cells slots la hR hS h1 h2 hl)
theorem zr_idiv (hO : zOk G X own cc nL) {x y : Int32} (hdg : decode cc pc = .ok (.idiv, 1)) (hne : ¬ y = 0) (k : zV G X nL bc bs S ly τ σ (pc + 1) ls (.int (x / y) :: st)) : zV G X nL bc bs S ly τ σ pc ls (.int y :: .int x :: st) := by
  obtain ⟨p, l, e, R, s, m, args, below, meth, c0, Q⟩ := X
  obtain ⟨hx, hb, hml, hown, hts, hlk, hK, htr⟩ := hO
  intro H locs cells slots la hR hS h1 h2 hl
  exact lv_idiv hx hb hdg hne (k H locs cells slots la hR hS h1 h2 hl)
theorem zr_irem (hO : zOk G X own cc nL) {x y : Int32} (hdg : decode cc pc = .ok (.irem, 1)) (hne : ¬ y = 0) (k : zV G X nL bc bs S ly τ σ (pc + 1) ls (.int (x - x / y * y) :: st)) : zV G X nL bc bs S ly τ σ pc ls (.int y :: .int x :: st) := by
  obtain ⟨p, l, e, R, s, m, args, below, meth, c0, Q⟩ := X
  obtain ⟨hx, hb, hml, hown, hts, hlk, hK, htr⟩ := hO
  intro H locs cells slots la hR hS h1 h2 hl
  exact lv_irem hx hb hdg hne (k H locs cells slots la hR hS h1 h2 hl)
theorem zr_ladd (hO : zOk G X own cc nL) {x y : Int64} (hdg : decode cc pc = .ok (.ladd, 1)) (k : zV G X nL bc bs S ly τ σ (pc + 1) ls (.long (x + y) :: st)) : zV G X nL bc bs S ly τ σ pc ls (.long y :: .long x :: st) := by
  obtain ⟨p, l, e, R, s, m, args, below, meth, c0, Q⟩ := X
  obtain ⟨hx, hb, hml, hown, hts, hlk, hK, htr⟩ := hO
  intro H locs cells slots la hR hS h1 h2 hl
  exact lv_ladd hx hb hdg (k H locs cells slots la hR hS h1 h2 hl)
theorem zr_lmul (hO : zOk G X own cc nL) {x y : Int64} (hdg : decode cc pc = .ok (.lmul, 1)) (k : zV G X nL bc bs S ly τ σ (pc + 1) ls (.long (x * y) :: st)) : zV G X nL bc bs S ly τ σ pc ls (.long y :: .long x :: st) := by
  obtain ⟨p, l, e, R, s, m, args, below, meth, c0, Q⟩ := X
  obtain ⟨hx, hb, hml, hown, hts, hlk, hK, htr⟩ := hO
  intro H locs cells slots la hR hS h1 h2 hl
  exact lv_lmul hx hb hdg (k H locs cells slots la hR hS h1 h2 hl)
theorem zr_i2l (hO : zOk G X own cc nL) {x : Int32} (hdg : decode cc pc = .ok (.i2l, 1)) (k : zV G X nL bc bs S ly τ σ (pc + 1) ls (.long x.toInt64 :: st)) : zV G X nL bc bs S ly τ σ pc ls (.int x :: st) := by
  obtain ⟨p, l, e, R, s, m, args, below, meth, c0, Q⟩ := X
  obtain ⟨hx, hb, hml, hown, hts, hlk, hK, htr⟩ := hO
  intro H locs cells slots la hR hS h1 h2 hl
  exact lv_i2l hx hb hdg rfl (k H locs cells slots la hR hS h1 h2 hl)
theorem zr_i2d (hO : zOk G X own cc nL) {x : Int32} (hdg : decode cc pc = .ok (.i2d, 1)) (k : zV G X nL bc bs S ly τ σ (pc + 1) ls (.double (FP.i2d x) :: st)) : zV G X nL bc bs S ly τ σ pc ls (.int x :: st) := by
  obtain ⟨p, l, e, R, s, m, args, below, meth, c0, Q⟩ := X
  obtain ⟨hx, hb, hml, hown, hts, hlk, hK, htr⟩ := hO
  intro H locs cells slots la hR hS h1 h2 hl
  exact lv_i2d hx hb hdg (k H locs cells slots la hR hS h1 h2 hl)
theorem zr_ddiv (hO : zOk G X own cc nL) {x y : UInt64} (hdg : decode cc pc = .ok (.ddiv, 1)) (hne : vf_n64 (FP.ddiv x y)) (k : zV G X nL bc bs S ly τ σ (pc + 1) ls (.double (FP.ddiv x y) :: st)) : zV G X nL bc bs S ly τ σ pc ls (.double y :: .double x :: st) := by
  obtain ⟨p, l, e, R, s, m, args, below, meth, c0, Q⟩ := X
  obtain ⟨hx, hb, hml, hown, hts, hlk, hK, htr⟩ := hO
  intro H locs cells slots la hR hS h1 h2 hl
  exact lv_ddiv hx hb hdg hne (k H locs cells slots la hR hS h1 h2 hl)
theorem zr_dcmp (hO : zOk G X own cc nL) {x y : UInt64} {op : CmpOp} (hdg : decode cc pc = .ok (.dcmp op, 1)) (k : zV G X nL bc bs S ly τ σ (pc + 1) ls (.int (Op.cmpValue (FP.dcmp x y) op) :: st)) : zV G X nL bc bs S ly τ σ pc ls (.double y :: .double x :: st) := by
  obtain ⟨p, l, e, R, s, m, args, below, meth, c0, Q⟩ := X
  obtain ⟨hx, hb, hml, hown, hts, hlk, hK, htr⟩ := hO
  intro H locs cells slots la hR hS h1 h2 hl
  exact lv_dcmp hx hb hdg (k H locs cells slots la hR hS h1 h2 hl)
theorem zr_dup (hO : zOk G X own cc nL) {v : Value} (hdg : decode cc pc = .ok (.dup, 1)) (hv : v.category = 1) (k : zV G X nL bc bs S ly τ σ (pc + 1) ls (v :: v :: st)) : zV G X nL bc bs S ly τ σ pc ls (v :: st) := by
  obtain ⟨p, l, e, R, s, m, args, below, meth, c0, Q⟩ := X
  obtain ⟨hx, hb, hml, hown, hts, hlk, hK, htr⟩ := hO
  intro H locs cells slots la hR hS h1 h2 hl
  exact lv_dup hx hb hdg hv (k H locs cells slots la hR hS h1 h2 hl)
theorem zr_dup2 (hO : zOk G X own cc nL) {v w : Value} (hdg : decode cc pc = .ok (.dup2, 1)) (hv : v.category = 1) (hw : w.category = 1) (k : zV G X nL bc bs S ly τ σ (pc + 1) ls (v :: w :: v :: w :: st)) : zV G X nL bc bs S ly τ σ pc ls (v :: w :: st) := by
  obtain ⟨p, l, e, R, s, m, args, below, meth, c0, Q⟩ := X
  obtain ⟨hx, hb, hml, hown, hts, hlk, hK, htr⟩ := hO
  intro H locs cells slots la hR hS h1 h2 hl
  exact lv_dup2_11 hx hb hdg hv hw (k H locs cells slots la hR hS h1 h2 hl)
theorem zr_pop (hO : zOk G X own cc nL) {v : Value} (hdg : decode cc pc = .ok (.pop, 1)) (hv : v.category = 1) (k : zV G X nL bc bs S ly τ σ (pc + 1) ls (st)) : zV G X nL bc bs S ly τ σ pc ls (v :: st) := by
  obtain ⟨p, l, e, R, s, m, args, below, meth, c0, Q⟩ := X
  obtain ⟨hx, hb, hml, hown, hts, hlk, hK, htr⟩ := hO
  intro H locs cells slots la hR hS h1 h2 hl
  exact lv_pop hx hb hdg hv (k H locs cells slots la hR hS h1 h2 hl)
theorem zr_iload_0 (hO : zOk G X own cc nL) {x : Int32} (hdg : decode cc pc = .ok (.iload_n 0, 1)) (k : zV G X nL bc bs S ly τ σ (pc + 1) [some (.int x), l1, l2, l3, l4, l5, l6, l7, l8] (.int x :: st)) : zV G X nL bc bs S ly τ σ pc [some (.int x), l1, l2, l3, l4, l5, l6, l7, l8] st := by
  obtain ⟨p, l, e, R, s, m, args, below, meth, c0, Q⟩ := X
  obtain ⟨hx, hb, hml, hown, hts, hlk, hK, htr⟩ := hO
  intro H locs cells slots la hR hS h1 h2 hl
  exact lv_iload_n (i := 0) hx hb hdg rfl (zLo_at hl rfl) (k H locs cells slots la hR hS h1 h2 hl)
theorem zr_lload_0 (hO : zOk G X own cc nL) {x : Int64} (hdg : decode cc pc = .ok (.lload_n 0, 1)) (k : zV G X nL bc bs S ly τ σ (pc + 1) [some (.long x), l1, l2, l3, l4, l5, l6, l7, l8] (.long x :: st)) : zV G X nL bc bs S ly τ σ pc [some (.long x), l1, l2, l3, l4, l5, l6, l7, l8] st := by
  obtain ⟨p, l, e, R, s, m, args, below, meth, c0, Q⟩ := X
  obtain ⟨hx, hb, hml, hown, hts, hlk, hK, htr⟩ := hO
  intro H locs cells slots la hR hS h1 h2 hl
  exact lv_lload_n (i := 0) hx hb hdg rfl (zLo_at hl rfl) (k H locs cells slots la hR hS h1 h2 hl)
theorem zr_aload_0 (hO : zOk G X own cc nL) {x : Nat} (hdg : decode cc pc = .ok (.aload_n 0, 1)) (k : zV G X nL bc bs S ly τ σ (pc + 1) [some (.ref x), l1, l2, l3, l4, l5, l6, l7, l8] (.ref x :: st)) : zV G X nL bc bs S ly τ σ pc [some (.ref x), l1, l2, l3, l4, l5, l6, l7, l8] st := by
  obtain ⟨p, l, e, R, s, m, args, below, meth, c0, Q⟩ := X
  obtain ⟨hx, hb, hml, hown, hts, hlk, hK, htr⟩ := hO
  intro H locs cells slots la hR hS h1 h2 hl
  exact lv_aload_n (i := 0) hx hb hdg rfl (zLo_at hl rfl) (k H locs cells slots la hR hS h1 h2 hl)
theorem zr_dload_0 (hO : zOk G X own cc nL) {x : UInt64} (hdg : decode cc pc = .ok (.dload_n 0, 1)) (k : zV G X nL bc bs S ly τ σ (pc + 1) [some (.double x), l1, l2, l3, l4, l5, l6, l7, l8] (.double x :: st)) : zV G X nL bc bs S ly τ σ pc [some (.double x), l1, l2, l3, l4, l5, l6, l7, l8] st := by
  obtain ⟨p, l, e, R, s, m, args, below, meth, c0, Q⟩ := X
  obtain ⟨hx, hb, hml, hown, hts, hlk, hK, htr⟩ := hO
  intro H locs cells slots la hR hS h1 h2 hl
  exact lv_dload_n (i := 0) hx hb hdg rfl (zLo_at hl rfl) (k H locs cells slots la hR hS h1 h2 hl)
theorem zr_nload_0 (hO : zOk G X own cc nL) (hdg : decode cc pc = .ok (.aload_n 0, 1)) (k : zV G X nL bc bs S ly τ σ (pc + 1) [some .null, l1, l2, l3, l4, l5, l6, l7, l8] (.null :: st)) : zV G X nL bc bs S ly τ σ pc [some .null, l1, l2, l3, l4, l5, l6, l7, l8] st := by
  obtain ⟨p, l, e, R, s, m, args, below, meth, c0, Q⟩ := X
  obtain ⟨hx, hb, hml, hown, hts, hlk, hK, htr⟩ := hO
  intro H locs cells slots la hR hS h1 h2 hl
  exact lv_aload_nN (i := 0) hx hb hdg rfl (zLo_at hl rfl) (k H locs cells slots la hR hS h1 h2 hl)
theorem zr_istore_0 (hO : zOk G X own cc nL) {x : Int32} (hdg : decode cc pc = .ok (.istore_n 0, 1)) (hnL : 0 < nL) (k : zV G X nL bc bs S ly τ σ (pc + 1) [some (.int x), l1, l2, l3, l4, l5, l6, l7, l8] st) : zV G X nL bc bs S ly τ σ pc [l0, l1, l2, l3, l4, l5, l6, l7, l8] (.int x :: st) := by
  obtain ⟨p, l, e, R, s, m, args, below, meth, c0, Q⟩ := X
  obtain ⟨hx, hb, hml, hown, hts, hlk, hK, htr⟩ := hO
  intro H locs cells slots la hR hS h1 h2 hl
  exact lv_istore_n (i := 0) hx hb hdg rfl hl hnL rfl (fun la2 hl2 => k H locs cells slots la2 hR hS h1 h2 (zLo_set1 hl2 (fun j hj => by omega)))
theorem zr_astore_0 (hO : zOk G X own cc nL) {x : Nat} (hdg : decode cc pc = .ok (.astore_n 0, 1)) (hnL : 0 < nL) (k : zV G X nL bc bs S ly τ σ (pc + 1) [some (.ref x), l1, l2, l3, l4, l5, l6, l7, l8] st) : zV G X nL bc bs S ly τ σ pc [l0, l1, l2, l3, l4, l5, l6, l7, l8] (.ref x :: st) := by
  obtain ⟨p, l, e, R, s, m, args, below, meth, c0, Q⟩ := X
  obtain ⟨hx, hb, hml, hown, hts, hlk, hK, htr⟩ := hO
  intro H locs cells slots la hR hS h1 h2 hl
  exact lv_astore_n (i := 0) hx hb hdg rfl hl hnL rfl (fun la2 hl2 => k H locs cells slots la2 hR hS h1 h2 (zLo_set1 hl2 (fun j hj => by omega)))
theorem zr_nstore_0 (hO : zOk G X own cc nL) (hdg : decode cc pc = .ok (.astore_n 0, 1)) (hnL : 0 < nL) (k : zV G X nL bc bs S ly τ σ (pc + 1) [some .null, l1, l2, l3, l4, l5, l6, l7, l8] st) : zV G X nL bc bs S ly τ σ pc [l0, l1, l2, l3, l4, l5, l6, l7, l8] (.null :: st) := by
  obtain ⟨p, l, e, R, s, m, args, below, meth, c0, Q⟩ := X
  obtain ⟨hx, hb, hml, hown, hts, hlk, hK, htr⟩ := hO
  intro H locs cells slots la hR hS h1 h2 hl
  exact lv_astore_nN (i := 0) hx hb hdg rfl hl hnL rfl (fun la2 hl2 => k H locs cells slots la2 hR hS h1 h2 (zLo_set1 hl2 (fun j hj => by omega)))
theorem zr_lstore_0 (hO : zOk G X own cc nL) {x : Int64} (hdg : decode cc pc = .ok (.lstore_n 0, 1)) (hnL : 0 + 1 < nL) (k : zV G X nL bc bs S ly τ σ (pc + 1) [some (.long x), none, l2, l3, l4, l5, l6, l7, l8] st) : zV G X nL bc bs S ly τ σ pc [l0, l1, l2, l3, l4, l5, l6, l7, l8] (.long x :: st) := by
  obtain ⟨p, l, e, R, s, m, args, below, meth, c0, Q⟩ := X
  obtain ⟨hx, hb, hml, hown, hts, hlk, hK, htr⟩ := hO
  intro H locs cells slots la hR hS h1 h2 hl
  exact lv_lstore_n (i := 0) hx hb hdg rfl hl hnL rfl (fun la2 hl2 => k H locs cells slots la2 hR hS h1 h2 (zLo_set2 hl2 (fun j hj => by omega)))
theorem zr_dstore_0 (hO : zOk G X own cc nL) {x : UInt64} (hdg : decode cc pc = .ok (.dstore_n 0, 1)) (hnL : 0 + 1 < nL) (k : zV G X nL bc bs S ly τ σ (pc + 1) [some (.double x), none, l2, l3, l4, l5, l6, l7, l8] st) : zV G X nL bc bs S ly τ σ pc [l0, l1, l2, l3, l4, l5, l6, l7, l8] (.double x :: st) := by
  obtain ⟨p, l, e, R, s, m, args, below, meth, c0, Q⟩ := X
  obtain ⟨hx, hb, hml, hown, hts, hlk, hK, htr⟩ := hO
  intro H locs cells slots la hR hS h1 h2 hl
  exact lv_dstore_n (i := 0) hx hb hdg rfl hl hnL rfl (fun la2 hl2 => k H locs cells slots la2 hR hS h1 h2 (zLo_set2 hl2 (fun j hj => by omega)))
theorem zr_iinc_0 (hO : zOk G X own cc nL) {x v : Int32} {n : Int} (hdg : decode cc pc = .ok (.iinc 0 n, 3)) (hnL : 0 < nL) (hv : Int32.ofInt n = v) (k : zV G X nL bc bs S ly τ σ (pc + 3) [some (.int (x + v)), l1, l2, l3, l4, l5, l6, l7, l8] st) : zV G X nL bc bs S ly τ σ pc [some (.int x), l1, l2, l3, l4, l5, l6, l7, l8] st := by
  obtain ⟨p, l, e, R, s, m, args, below, meth, c0, Q⟩ := X
  obtain ⟨hx, hb, hml, hown, hts, hlk, hK, htr⟩ := hO
  intro H locs cells slots la hR hS h1 h2 hl
  subst hv
  obtain ⟨j, hj⟩ := List.getElem?_of_mem (zas_mem.mpr (show [some (.int x), l1, l2, l3, l4, l5, l6, l7, l8][0]? = some (some (Value.int x)) from rfl))
  exact lv_iinc (k := j) hx hb hdg hl hj rfl hnL rfl (fun la2 hl2 => k H locs cells slots la2 hR hS h1 h2 (zLo_set1 hl2 (fun j hj => by omega)))
theorem zr_iload_1 (hO : zOk G X own cc nL) {x : Int32} (hdg : decode cc pc = .ok (.iload_n 1, 1)) (k : zV G X nL bc bs S ly τ σ (pc + 1) [l0, some (.int x), l2, l3, l4, l5, l6, l7, l8] (.int x :: st)) : zV G X nL bc bs S ly τ σ pc [l0, some (.int x), l2, l3, l4, l5, l6, l7, l8] st := by
  obtain ⟨p, l, e, R, s, m, args, below, meth, c0, Q⟩ := X
  obtain ⟨hx, hb, hml, hown, hts, hlk, hK, htr⟩ := hO
  intro H locs cells slots la hR hS h1 h2 hl
  exact lv_iload_n (i := 1) hx hb hdg rfl (zLo_at hl rfl) (k H locs cells slots la hR hS h1 h2 hl)
theorem zr_lload_1 (hO : zOk G X own cc nL) {x : Int64} (hdg : decode cc pc = .ok (.lload_n 1, 1)) (k : zV G X nL bc bs S ly τ σ (pc + 1) [l0, some (.long x), l2, l3, l4, l5, l6, l7, l8] (.long x :: st)) : zV G X nL bc bs S ly τ σ pc [l0, some (.long x), l2, l3, l4, l5, l6, l7, l8] st := by
  obtain ⟨p, l, e, R, s, m, args, below, meth, c0, Q⟩ := X
  obtain ⟨hx, hb, hml, hown, hts, hlk, hK, htr⟩ := hO
  intro H locs cells slots la hR hS h1 h2 hl
  exact lv_lload_n (i := 1) hx hb hdg rfl (zLo_at hl rfl) (k H locs cells slots la hR hS h1 h2 hl)
theorem zr_aload_1 (hO : zOk G X own cc nL) {x : Nat} (hdg : decode cc pc = .ok (.aload_n 1, 1)) (k : zV G X nL bc bs S ly τ σ (pc + 1) [l0, some (.ref x), l2, l3, l4, l5, l6, l7, l8] (.ref x :: st)) : zV G X nL bc bs S ly τ σ pc [l0, some (.ref x), l2, l3, l4, l5, l6, l7, l8] st := by
  obtain ⟨p, l, e, R, s, m, args, below, meth, c0, Q⟩ := X
  obtain ⟨hx, hb, hml, hown, hts, hlk, hK, htr⟩ := hO
  intro H locs cells slots la hR hS h1 h2 hl
  exact lv_aload_n (i := 1) hx hb hdg rfl (zLo_at hl rfl) (k H locs cells slots la hR hS h1 h2 hl)
theorem zr_dload_1 (hO : zOk G X own cc nL) {x : UInt64} (hdg : decode cc pc = .ok (.dload_n 1, 1)) (k : zV G X nL bc bs S ly τ σ (pc + 1) [l0, some (.double x), l2, l3, l4, l5, l6, l7, l8] (.double x :: st)) : zV G X nL bc bs S ly τ σ pc [l0, some (.double x), l2, l3, l4, l5, l6, l7, l8] st := by
  obtain ⟨p, l, e, R, s, m, args, below, meth, c0, Q⟩ := X
  obtain ⟨hx, hb, hml, hown, hts, hlk, hK, htr⟩ := hO
  intro H locs cells slots la hR hS h1 h2 hl
  exact lv_dload_n (i := 1) hx hb hdg rfl (zLo_at hl rfl) (k H locs cells slots la hR hS h1 h2 hl)
theorem zr_nload_1 (hO : zOk G X own cc nL) (hdg : decode cc pc = .ok (.aload_n 1, 1)) (k : zV G X nL bc bs S ly τ σ (pc + 1) [l0, some .null, l2, l3, l4, l5, l6, l7, l8] (.null :: st)) : zV G X nL bc bs S ly τ σ pc [l0, some .null, l2, l3, l4, l5, l6, l7, l8] st := by
  obtain ⟨p, l, e, R, s, m, args, below, meth, c0, Q⟩ := X
  obtain ⟨hx, hb, hml, hown, hts, hlk, hK, htr⟩ := hO
  intro H locs cells slots la hR hS h1 h2 hl
  exact lv_aload_nN (i := 1) hx hb hdg rfl (zLo_at hl rfl) (k H locs cells slots la hR hS h1 h2 hl)
theorem zr_istore_1 (hO : zOk G X own cc nL) {x : Int32} (hdg : decode cc pc = .ok (.istore_n 1, 1)) (hnL : 1 < nL) (hp : zc1 l0 = true) (k : zV G X nL bc bs S ly τ σ (pc + 1) [l0, some (.int x), l2, l3, l4, l5, l6, l7, l8] st) : zV G X nL bc bs S ly τ σ pc [l0, l1, l2, l3, l4, l5, l6, l7, l8] (.int x :: st) := by
  obtain ⟨p, l, e, R, s, m, args, below, meth, c0, Q⟩ := X
  obtain ⟨hx, hb, hml, hown, hts, hlk, hK, htr⟩ := hO
  intro H locs cells slots la hR hS h1 h2 hl
  exact lv_istore_n (i := 1) hx hb hdg rfl hl hnL rfl (fun la2 hl2 => k H locs cells slots la2 hR hS h1 h2 (zLo_set1 hl2 (fun j hj => by have h9 : j = 0 := (by omega); subst h9; exact hp)))
theorem zr_astore_1 (hO : zOk G X own cc nL) {x : Nat} (hdg : decode cc pc = .ok (.astore_n 1, 1)) (hnL : 1 < nL) (hp : zc1 l0 = true) (k : zV G X nL bc bs S ly τ σ (pc + 1) [l0, some (.ref x), l2, l3, l4, l5, l6, l7, l8] st) : zV G X nL bc bs S ly τ σ pc [l0, l1, l2, l3, l4, l5, l6, l7, l8] (.ref x :: st) := by
  obtain ⟨p, l, e, R, s, m, args, below, meth, c0, Q⟩ := X
  obtain ⟨hx, hb, hml, hown, hts, hlk, hK, htr⟩ := hO
  intro H locs cells slots la hR hS h1 h2 hl
  exact lv_astore_n (i := 1) hx hb hdg rfl hl hnL rfl (fun la2 hl2 => k H locs cells slots la2 hR hS h1 h2 (zLo_set1 hl2 (fun j hj => by have h9 : j = 0 := (by omega); subst h9; exact hp)))
theorem zr_nstore_1 (hO : zOk G X own cc nL) (hdg : decode cc pc = .ok (.astore_n 1, 1)) (hnL : 1 < nL) (hp : zc1 l0 = true) (k : zV G X nL bc bs S ly τ σ (pc + 1) [l0, some .null, l2, l3, l4, l5, l6, l7, l8] st) : zV G X nL bc bs S ly τ σ pc [l0, l1, l2, l3, l4, l5, l6, l7, l8] (.null :: st) := by
  obtain ⟨p, l, e, R, s, m, args, below, meth, c0, Q⟩ := X
  obtain ⟨hx, hb, hml, hown, hts, hlk, hK, htr⟩ := hO
  intro H locs cells slots la hR hS h1 h2 hl
  exact lv_astore_nN (i := 1) hx hb hdg rfl hl hnL rfl (fun la2 hl2 => k H locs cells slots la2 hR hS h1 h2 (zLo_set1 hl2 (fun j hj => by have h9 : j = 0 := (by omega); subst h9; exact hp)))
theorem zr_lstore_1 (hO : zOk G X own cc nL) {x : Int64} (hdg : decode cc pc = .ok (.lstore_n 1, 1)) (hnL : 1 + 1 < nL) (hp : zc1 l0 = true) (k : zV G X nL bc bs S ly τ σ (pc + 1) [l0, some (.long x), none, l3, l4, l5, l6, l7, l8] st) : zV G X nL bc bs S ly τ σ pc [l0, l1, l2, l3, l4, l5, l6, l7, l8] (.long x :: st) := by
  obtain ⟨p, l, e, R, s, m, args, below, meth, c0, Q⟩ := X
  obtain ⟨hx, hb, hml, hown, hts, hlk, hK, htr⟩ := hO
  intro H locs cells slots la hR hS h1 h2 hl
  exact lv_lstore_n (i := 1) hx hb hdg rfl hl hnL rfl (fun la2 hl2 => k H locs cells slots la2 hR hS h1 h2 (zLo_set2 hl2 (fun j hj => by have h9 : j = 0 := (by omega); subst h9; exact hp)))
theorem zr_dstore_1 (hO : zOk G X own cc nL) {x : UInt64} (hdg : decode cc pc = .ok (.dstore_n 1, 1)) (hnL : 1 + 1 < nL) (hp : zc1 l0 = true) (k : zV G X nL bc bs S ly τ σ (pc + 1) [l0, some (.double x), none, l3, l4, l5, l6, l7, l8] st) : zV G X nL bc bs S ly τ σ pc [l0, l1, l2, l3, l4, l5, l6, l7, l8] (.double x :: st) := by
  obtain ⟨p, l, e, R, s, m, args, below, meth, c0, Q⟩ := X
  obtain ⟨hx, hb, hml, hown, hts, hlk, hK, htr⟩ := hO
  intro H locs cells slots la hR hS h1 h2 hl
  exact lv_dstore_n (i := 1) hx hb hdg rfl hl hnL rfl (fun la2 hl2 => k H locs cells slots la2 hR hS h1 h2 (zLo_set2 hl2 (fun j hj => by have h9 : j = 0 := (by omega); subst h9; exact hp)))
theorem zr_iinc_1 (hO : zOk G X own cc nL) {x v : Int32} {n : Int} (hdg : decode cc pc = .ok (.iinc 1 n, 3)) (hnL : 1 < nL) (hv : Int32.ofInt n = v) (hp : zc1 l0 = true) (k : zV G X nL bc bs S ly τ σ (pc + 3) [l0, some (.int (x + v)), l2, l3, l4, l5, l6, l7, l8] st) : zV G X nL bc bs S ly τ σ pc [l0, some (.int x), l2, l3, l4, l5, l6, l7, l8] st := by
  obtain ⟨p, l, e, R, s, m, args, below, meth, c0, Q⟩ := X
  obtain ⟨hx, hb, hml, hown, hts, hlk, hK, htr⟩ := hO
  intro H locs cells slots la hR hS h1 h2 hl
  subst hv
  obtain ⟨j, hj⟩ := List.getElem?_of_mem (zas_mem.mpr (show [l0, some (.int x), l2, l3, l4, l5, l6, l7, l8][1]? = some (some (Value.int x)) from rfl))
  exact lv_iinc (k := j) hx hb hdg hl hj rfl hnL rfl (fun la2 hl2 => k H locs cells slots la2 hR hS h1 h2 (zLo_set1 hl2 (fun j hj => by have h9 : j = 0 := (by omega); subst h9; exact hp)))
theorem zr_iload_2 (hO : zOk G X own cc nL) {x : Int32} (hdg : decode cc pc = .ok (.iload_n 2, 1)) (k : zV G X nL bc bs S ly τ σ (pc + 1) [l0, l1, some (.int x), l3, l4, l5, l6, l7, l8] (.int x :: st)) : zV G X nL bc bs S ly τ σ pc [l0, l1, some (.int x), l3, l4, l5, l6, l7, l8] st := by
  obtain ⟨p, l, e, R, s, m, args, below, meth, c0, Q⟩ := X
  obtain ⟨hx, hb, hml, hown, hts, hlk, hK, htr⟩ := hO
  intro H locs cells slots la hR hS h1 h2 hl
  exact lv_iload_n (i := 2) hx hb hdg rfl (zLo_at hl rfl) (k H locs cells slots la hR hS h1 h2 hl)
theorem zr_lload_2 (hO : zOk G X own cc nL) {x : Int64} (hdg : decode cc pc = .ok (.lload_n 2, 1)) (k : zV G X nL bc bs S ly τ σ (pc + 1) [l0, l1, some (.long x), l3, l4, l5, l6, l7, l8] (.long x :: st)) : zV G X nL bc bs S ly τ σ pc [l0, l1, some (.long x), l3, l4, l5, l6, l7, l8] st := by
  obtain ⟨p, l, e, R, s, m, args, below, meth, c0, Q⟩ := X
  obtain ⟨hx, hb, hml, hown, hts, hlk, hK, htr⟩ := hO
  intro H locs cells slots la hR hS h1 h2 hl
  exact lv_lload_n (i := 2) hx hb hdg rfl (zLo_at hl rfl) (k H locs cells slots la hR hS h1 h2 hl)
theorem zr_aload_2 (hO : zOk G X own cc nL) {x : Nat} (hdg : decode cc pc = .ok (.aload_n 2, 1)) (k : zV G X nL bc bs S ly τ σ (pc + 1) [l0, l1, some (.ref x), l3, l4, l5, l6, l7, l8] (.ref x :: st)) : zV G X nL bc bs S ly τ σ pc [l0, l1, some (.ref x), l3, l4, l5, l6, l7, l8] st := by
  obtain ⟨p, l, e, R, s, m, args, below, meth, c0, Q⟩ := X
  obtain ⟨hx, hb, hml, hown, hts, hlk, hK, htr⟩ := hO
  intro H locs cells slots la hR hS h1 h2 hl
  exact lv_aload_n (i := 2) hx hb hdg rfl (zLo_at hl rfl) (k H locs cells slots la hR hS h1 h2 hl)
theorem zr_dload_2 (hO : zOk G X own cc nL) {x : UInt64} (hdg : decode cc pc = .ok (.dload_n 2, 1)) (k : zV G X nL bc bs S ly τ σ (pc + 1) [l0, l1, some (.double x), l3, l4, l5, l6, l7, l8] (.double x :: st)) : zV G X nL bc bs S ly τ σ pc [l0, l1, some (.double x), l3, l4, l5, l6, l7, l8] st := by
  obtain ⟨p, l, e, R, s, m, args, below, meth, c0, Q⟩ := X
  obtain ⟨hx, hb, hml, hown, hts, hlk, hK, htr⟩ := hO
  intro H locs cells slots la hR hS h1 h2 hl
  exact lv_dload_n (i := 2) hx hb hdg rfl (zLo_at hl rfl) (k H locs cells slots la hR hS h1 h2 hl)
theorem zr_nload_2 (hO : zOk G X own cc nL) (hdg : decode cc pc = .ok (.aload_n 2, 1)) (k : zV G X nL bc bs S ly τ σ (pc + 1) [l0, l1, some .null, l3, l4, l5, l6, l7, l8] (.null :: st)) : zV G X nL bc bs S ly τ σ pc [l0, l1, some .null, l3, l4, l5, l6, l7, l8] st := by
  obtain ⟨p, l, e, R, s, m, args, below, meth, c0, Q⟩ := X
  obtain ⟨hx, hb, hml, hown, hts, hlk, hK, htr⟩ := hO
  intro H locs cells slots la hR hS h1 h2 hl
  exact lv_aload_nN (i := 2) hx hb hdg rfl (zLo_at hl rfl) (k H locs cells slots la hR hS h1 h2 hl)
theorem zr_istore_2 (hO : zOk G X own cc nL) {x : Int32} (hdg : decode cc pc = .ok (.istore_n 2, 1)) (hnL : 2 < nL) (hp : zc1 l1 = true) (k : zV G X nL bc bs S ly τ σ (pc + 1) [l0, l1, some (.int x), l3, l4, l5, l6, l7, l8] st) : zV G X nL bc bs S ly τ σ pc [l0, l1, l2, l3, l4, l5, l6, l7, l8] (.int x :: st) := by
  obtain ⟨p, l, e, R, s, m, args, below, meth, c0, Q⟩ := X
  obtain ⟨hx, hb, hml, hown, hts, hlk, hK, htr⟩ := hO
  intro H locs cells slots la hR hS h1 h2 hl
  exact lv_istore_n (i := 2) hx hb hdg rfl hl hnL rfl (fun la2 hl2 => k H locs cells slots la2 hR hS h1 h2 (zLo_set1 hl2 (fun j hj => by have h9 : j = 1 := (by omega); subst h9; exact hp)))
theorem zr_astore_2 (hO : zOk G X own cc nL) {x : Nat} (hdg : decode cc pc = .ok (.astore_n 2, 1)) (hnL : 2 < nL) (hp : zc1 l1 = true) (k : zV G X nL bc bs S ly τ σ (pc + 1) [l0, l1, some (.ref x), l3, l4, l5, l6, l7, l8] st) : zV G X nL bc bs S ly τ σ pc [l0, l1, l2, l3, l4, l5, l6, l7, l8] (.ref x :: st) := by
  obtain ⟨p, l, e, R, s, m, args, below, meth, c0, Q⟩ := X
  obtain ⟨hx, hb, hml, hown, hts, hlk, hK, htr⟩ := hO
  intro H locs cells slots la hR hS h1 h2 hl
  exact lv_astore_n (i := 2) hx hb hdg rfl hl hnL rfl (fun la2 hl2 => k H locs cells slots la2 hR hS h1 h2 (zLo_set1 hl2 (fun j hj => by have h9 : j = 1 := (by omega); subst h9; exact hp)))
theorem zr_nstore_2 (hO : zOk G X own cc nL) (hdg : decode cc pc = .ok (.astore_n 2, 1)) (hnL : 2 < nL) (hp : zc1 l1 = true) (k : zV G X nL bc bs S ly τ σ (pc + 1) [l0, l1, some .null, l3, l4, l5, l6, l7, l8] st) : zV G X nL bc bs S ly τ σ pc [l0, l1, l2, l3, l4, l5, l6, l7, l8] (.null :: st) := by
  obtain ⟨p, l, e, R, s, m, args, below, meth, c0, Q⟩ := X
  obtain ⟨hx, hb, hml, hown, hts, hlk, hK, htr⟩ := hO
  intro H locs cells slots la hR hS h1 h2 hl
  exact lv_astore_nN (i := 2) hx hb hdg rfl hl hnL rfl (fun la2 hl2 => k H locs cells slots la2 hR hS h1 h2 (zLo_set1 hl2 (fun j hj => by have h9 : j = 1 := (by omega); subst h9; exact hp)))
theorem zr_lstore_2 (hO : zOk G X own cc nL) {x : Int64} (hdg : decode cc pc = .ok (.lstore_n 2, 1)) (hnL : 2 + 1 < nL) (hp : zc1 l1 = true) (k : zV G X nL bc bs S ly τ σ (pc + 1) [l0, l1, some (.long x), none, l4, l5, l6, l7, l8] st) : zV G X nL bc bs S ly τ σ pc [l0, l1, l2, l3, l4, l5, l6, l7, l8] (.long x :: st) := by
  obtain ⟨p, l, e, R, s, m, args, below, meth, c0, Q⟩ := X
  obtain ⟨hx, hb, hml, hown, hts, hlk, hK, htr⟩ := hO
  intro H locs cells slots la hR hS h1 h2 hl
  exact lv_lstore_n (i := 2) hx hb hdg rfl hl hnL rfl (fun la2 hl2 => k H locs cells slots la2 hR hS h1 h2 (zLo_set2 hl2 (fun j hj => by have h9 : j = 1 := (by omega); subst h9; exact hp)))
theorem zr_dstore_2 (hO : zOk G X own cc nL) {x : UInt64} (hdg : decode cc pc = .ok (.dstore_n 2, 1)) (hnL : 2 + 1 < nL) (hp : zc1 l1 = true) (k : zV G X nL bc bs S ly τ σ (pc + 1) [l0, l1, some (.double x), none, l4, l5, l6, l7, l8] st) : zV G X nL bc bs S ly τ σ pc [l0, l1, l2, l3, l4, l5, l6, l7, l8] (.double x :: st) := by
  obtain ⟨p, l, e, R, s, m, args, below, meth, c0, Q⟩ := X
  obtain ⟨hx, hb, hml, hown, hts, hlk, hK, htr⟩ := hO
  intro H locs cells slots la hR hS h1 h2 hl
  exact lv_dstore_n (i := 2) hx hb hdg rfl hl hnL rfl (fun la2 hl2 => k H locs cells slots la2 hR hS h1 h2 (zLo_set2 hl2 (fun j hj => by have h9 : j = 1 := (by omega); subst h9; exact hp)))
theorem zr_iinc_2 (hO : zOk G X own cc nL) {x v : Int32} {n : Int} (hdg : decode cc pc = .ok (.iinc 2 n, 3)) (hnL : 2 < nL) (hv : Int32.ofInt n = v) (hp : zc1 l1 = true) (k : zV G X nL bc bs S ly τ σ (pc + 3) [l0, l1, some (.int (x + v)), l3, l4, l5, l6, l7, l8] st) : zV G X nL bc bs S ly τ σ pc [l0, l1, some (.int x), l3, l4, l5, l6, l7, l8] st := by
  obtain ⟨p, l, e, R, s, m, args, below, meth, c0, Q⟩ := X
  obtain ⟨hx, hb, hml, hown, hts, hlk, hK, htr⟩ := hO
  intro H locs cells slots la hR hS h1 h2 hl
  subst hv
  obtain ⟨j, hj⟩ := List.getElem?_of_mem (zas_mem.mpr (show [l0, l1, some (.int x), l3, l4, l5, l6, l7, l8][2]? = some (some (Value.int x)) from rfl))
  exact lv_iinc (k := j) hx hb hdg hl hj rfl hnL rfl (fun la2 hl2 => k H locs cells slots la2 hR hS h1 h2 (zLo_set1 hl2 (fun j hj => by have h9 : j = 1 := (by omega); subst h9; exact hp)))
theorem zr_iload_3 (hO : zOk G X own cc nL) {x : Int32} (hdg : decode cc pc = .ok (.iload_n 3, 1)) (k : zV G X nL bc bs S ly τ σ (pc + 1) [l0, l1, l2, some (.int x), l4, l5, l6, l7, l8] (.int x :: st)) : zV G X nL bc bs S ly τ σ pc [l0, l1, l2, some (.int x), l4, l5, l6, l7, l8] st := by
  obtain ⟨p, l, e, R, s, m, args, below, meth, c0, Q⟩ := X
  obtain ⟨hx, hb, hml, hown, hts, hlk, hK, htr⟩ := hO
  intro H locs cells slots la hR hS h1 h2 hl
  exact lv_iload_n (i := 3) hx hb hdg rfl (zLo_at hl rfl) (k H locs cells slots la hR hS h1 h2 hl)
theorem zr_lload_3 (hO : zOk G X own cc nL) {x : Int64} (hdg : decode cc pc = .ok (.lload_n 3, 1)) (k : zV G X nL bc bs S ly τ σ (pc + 1) [l0, l1, l2, some (.long x), l4, l5, l6, l7, l8] (.long x :: st)) : zV G X nL bc bs S ly τ σ pc [l0, l1, l2, some (.long x), l4, l5, l6, l7, l8] st := by
  obtain ⟨p, l, e, R, s, m, args, below, meth, c0, Q⟩ := X
  obtain ⟨hx, hb, hml, hown, hts, hlk, hK, htr⟩ := hO
  intro H locs cells slots la hR hS h1 h2 hl
  exact lv_lload_n (i := 3) hx hb hdg rfl (zLo_at hl rfl) (k H locs cells slots la hR hS h1 h2 hl)
theorem zr_aload_3 (hO : zOk G X own cc nL) {x : Nat} (hdg : decode cc pc = .ok (.aload_n 3, 1)) (k : zV G X nL bc bs S ly τ σ (pc + 1) [l0, l1, l2, some (.ref x), l4, l5, l6, l7, l8] (.ref x :: st)) : zV G X nL bc bs S ly τ σ pc [l0, l1, l2, some (.ref x), l4, l5, l6, l7, l8] st := by
  obtain ⟨p, l, e, R, s, m, args, below, meth, c0, Q⟩ := X
  obtain ⟨hx, hb, hml, hown, hts, hlk, hK, htr⟩ := hO
  intro H locs cells slots la hR hS h1 h2 hl
  exact lv_aload_n (i := 3) hx hb hdg rfl (zLo_at hl rfl) (k H locs cells slots la hR hS h1 h2 hl)
theorem zr_dload_3 (hO : zOk G X own cc nL) {x : UInt64} (hdg : decode cc pc = .ok (.dload_n 3, 1)) (k : zV G X nL bc bs S ly τ σ (pc + 1) [l0, l1, l2, some (.double x), l4, l5, l6, l7, l8] (.double x :: st)) : zV G X nL bc bs S ly τ σ pc [l0, l1, l2, some (.double x), l4, l5, l6, l7, l8] st := by
  obtain ⟨p, l, e, R, s, m, args, below, meth, c0, Q⟩ := X
  obtain ⟨hx, hb, hml, hown, hts, hlk, hK, htr⟩ := hO
  intro H locs cells slots la hR hS h1 h2 hl
  exact lv_dload_n (i := 3) hx hb hdg rfl (zLo_at hl rfl) (k H locs cells slots la hR hS h1 h2 hl)
theorem zr_nload_3 (hO : zOk G X own cc nL) (hdg : decode cc pc = .ok (.aload_n 3, 1)) (k : zV G X nL bc bs S ly τ σ (pc + 1) [l0, l1, l2, some .null, l4, l5, l6, l7, l8] (.null :: st)) : zV G X nL bc bs S ly τ σ pc [l0, l1, l2, some .null, l4, l5, l6, l7, l8] st := by
  obtain ⟨p, l, e, R, s, m, args, below, meth, c0, Q⟩ := X
  obtain ⟨hx, hb, hml, hown, hts, hlk, hK, htr⟩ := hO
  intro H locs cells slots la hR hS h1 h2 hl
  exact lv_aload_nN (i := 3) hx hb hdg rfl (zLo_at hl rfl) (k H locs cells slots la hR hS h1 h2 hl)
theorem zr_istore_3 (hO : zOk G X own cc nL) {x : Int32} (hdg : decode cc pc = .ok (.istore_n 3, 1)) (hnL : 3 < nL) (hp : zc1 l2 = true) (k : zV G X nL bc bs S ly τ σ (pc + 1) [l0, l1, l2, some (.int x), l4, l5, l6, l7, l8] st) : zV G X nL bc bs S ly τ σ pc [l0, l1, l2, l3, l4, l5, l6, l7, l8] (.int x :: st) := by
  obtain ⟨p, l, e, R, s, m, args, below, meth, c0, Q⟩ := X
  obtain ⟨hx, hb, hml, hown, hts, hlk, hK, htr⟩ := hO
  intro H locs cells slots la hR hS h1 h2 hl
  exact lv_istore_n (i := 3) hx hb hdg rfl hl hnL rfl (fun la2 hl2 => k H locs cells slots la2 hR hS h1 h2 (zLo_set1 hl2 (fun j hj => by have h9 : j = 2 := (by omega); subst h9; exact hp)))
theorem zr_astore_3 (hO : zOk G X own cc nL) {x : Nat} (hdg : decode cc pc = .ok (.astore_n 3, 1)) (hnL : 3 < nL) (hp : zc1 l2 = true) (k : zV G X nL bc bs S ly τ σ (pc + 1) [l0, l1, l2, some (.ref x), l4, l5, l6, l7, l8] st) : zV G X nL bc bs S ly τ σ pc [l0, l1, l2, l3, l4, l5, l6, l7, l8] (.ref x :: st) := by
  obtain ⟨p, l, e, R, s, m, args, below, meth, c0, Q⟩ := X
  obtain ⟨hx, hb, hml, hown, hts, hlk, hK, htr⟩ := hO
  intro H locs cells slots la hR hS h1 h2 hl
  exact lv_astore_n (i := 3) hx hb hdg rfl hl hnL rfl (fun la2 hl2 => k H locs cells slots la2 hR hS h1 h2 (zLo_set1 hl2 (fun j hj => by have h9 : j = 2 := (by omega); subst h9; exact hp)))
theorem zr_nstore_3 (hO : zOk G X own cc nL) (hdg : decode cc pc = .ok (.astore_n 3, 1)) (hnL : 3 < nL) (hp : zc1 l2 = true) (k : zV G X nL bc bs S ly τ σ (pc + 1) [l0, l1, l2, some .null, l4, l5, l6, l7, l8] st) : zV G X nL bc bs S ly τ σ pc [l0, l1, l2, l3, l4, l5, l6, l7, l8] (.null :: st) := by
  obtain ⟨p, l, e, R, s, m, args, below, meth, c0, Q⟩ := X
  obtain ⟨hx, hb, hml, hown, hts, hlk, hK, htr⟩ := hO
  intro H locs cells slots la hR hS h1 h2 hl
  exact lv_astore_nN (i := 3) hx hb hdg rfl hl hnL rfl (fun la2 hl2 => k H locs cells slots la2 hR hS h1 h2 (zLo_set1 hl2 (fun j hj => by have h9 : j = 2 := (by omega); subst h9; exact hp)))
theorem zr_lstore_3 (hO : zOk G X own cc nL) {x : Int64} (hdg : decode cc pc = .ok (.lstore_n 3, 1)) (hnL : 3 + 1 < nL) (hp : zc1 l2 = true) (k : zV G X nL bc bs S ly τ σ (pc + 1) [l0, l1, l2, some (.long x), none, l5, l6, l7, l8] st) : zV G X nL bc bs S ly τ σ pc [l0, l1, l2, l3, l4, l5, l6, l7, l8] (.long x :: st) := by
  obtain ⟨p, l, e, R, s, m, args, below, meth, c0, Q⟩ := X
  obtain ⟨hx, hb, hml, hown, hts, hlk, hK, htr⟩ := hO
  intro H locs cells slots la hR hS h1 h2 hl
  exact lv_lstore_n (i := 3) hx hb hdg rfl hl hnL rfl (fun la2 hl2 => k H locs cells slots la2 hR hS h1 h2 (zLo_set2 hl2 (fun j hj => by have h9 : j = 2 := (by omega); subst h9; exact hp)))
theorem zr_dstore_3 (hO : zOk G X own cc nL) {x : UInt64} (hdg : decode cc pc = .ok (.dstore_n 3, 1)) (hnL : 3 + 1 < nL) (hp : zc1 l2 = true) (k : zV G X nL bc bs S ly τ σ (pc + 1) [l0, l1, l2, some (.double x), none, l5, l6, l7, l8] st) : zV G X nL bc bs S ly τ σ pc [l0, l1, l2, l3, l4, l5, l6, l7, l8] (.double x :: st) := by
  obtain ⟨p, l, e, R, s, m, args, below, meth, c0, Q⟩ := X
  obtain ⟨hx, hb, hml, hown, hts, hlk, hK, htr⟩ := hO
  intro H locs cells slots la hR hS h1 h2 hl
  exact lv_dstore_n (i := 3) hx hb hdg rfl hl hnL rfl (fun la2 hl2 => k H locs cells slots la2 hR hS h1 h2 (zLo_set2 hl2 (fun j hj => by have h9 : j = 2 := (by omega); subst h9; exact hp)))
theorem zr_iinc_3 (hO : zOk G X own cc nL) {x v : Int32} {n : Int} (hdg : decode cc pc = .ok (.iinc 3 n, 3)) (hnL : 3 < nL) (hv : Int32.ofInt n = v) (hp : zc1 l2 = true) (k : zV G X nL bc bs S ly τ σ (pc + 3) [l0, l1, l2, some (.int (x + v)), l4, l5, l6, l7, l8] st) : zV G X nL bc bs S ly τ σ pc [l0, l1, l2, some (.int x), l4, l5, l6, l7, l8] st := by
  obtain ⟨p, l, e, R, s, m, args, below, meth, c0, Q⟩ := X
  obtain ⟨hx, hb, hml, hown, hts, hlk, hK, htr⟩ := hO
  intro H locs cells slots la hR hS h1 h2 hl
  subst hv
  obtain ⟨j, hj⟩ := List.getElem?_of_mem (zas_mem.mpr (show [l0, l1, l2, some (.int x), l4, l5, l6, l7, l8][3]? = some (some (Value.int x)) from rfl))
  exact lv_iinc (k := j) hx hb hdg hl hj rfl hnL rfl (fun la2 hl2 => k H locs cells slots la2 hR hS h1 h2 (zLo_set1 hl2 (fun j hj => by have h9 : j = 2 := (by omega); subst h9; exact hp)))
theorem zr_iload_4 (hO : zOk G X own cc nL) {x : Int32} (hdg : decode cc pc = .ok (.iload 4, 2)) (k : zV G X nL bc bs S ly τ σ (pc + 2) [l0, l1, l2, l3, some (.int x), l5, l6, l7, l8] (.int x :: st)) : zV G X nL bc bs S ly τ σ pc [l0, l1, l2, l3, some (.int x), l5, l6, l7, l8] st := by
  obtain ⟨p, l, e, R, s, m, args, below, meth, c0, Q⟩ := X
  obtain ⟨hx, hb, hml, hown, hts, hlk, hK, htr⟩ := hO
  intro H locs cells slots la hR hS h1 h2 hl
  exact lv_iload hx hb hdg (zLo_at hl rfl) (k H locs cells slots la hR hS h1 h2 hl)
theorem zr_lload_4 (hO : zOk G X own cc nL) {x : Int64} (hdg : decode cc pc = .ok (.lload 4, 2)) (k : zV G X nL bc bs S ly τ σ (pc + 2) [l0, l1, l2, l3, some (.long x), l5, l6, l7, l8] (.long x :: st)) : zV G X nL bc bs S ly τ σ pc [l0, l1, l2, l3, some (.long x), l5, l6, l7, l8] st := by
  obtain ⟨p, l, e, R, s, m, args, below, meth, c0, Q⟩ := X
  obtain ⟨hx, hb, hml, hown, hts, hlk, hK, htr⟩ := hO
  intro H locs cells slots la hR hS h1 h2 hl
  exact lv_lload hx hb hdg (zLo_at hl rfl) (k H locs cells slots la hR hS h1 h2 hl)
theorem zr_aload_4 (hO : zOk G X own cc nL) {x : Nat} (hdg : decode cc pc = .ok (.aload 4, 2)) (k : zV G X nL bc bs S ly τ σ (pc + 2) [l0, l1, l2, l3, some (.ref x), l5, l6, l7, l8] (.ref x :: st)) : zV G X nL bc bs S ly τ σ pc [l0, l1, l2, l3, some (.ref x), l5, l6, l7, l8] st := by
  obtain ⟨p, l, e, R, s, m, args, below, meth, c0, Q⟩ := X
  obtain ⟨hx, hb, hml, hown, hts, hlk, hK, htr⟩ := hO
  intro H locs cells slots la hR hS h1 h2 hl
  exact lv_aload hx hb hdg (zLo_at hl rfl) (k H locs cells slots la hR hS h1 h2 hl)
theorem zr_dload_4 (hO : zOk G X own cc nL) {x : UInt64} (hdg : decode cc pc = .ok (.dload 4, 2)) (k : zV G X nL bc bs S ly τ σ (pc + 2) [l0, l1, l2, l3, some (.double x), l5, l6, l7, l8] (.double x :: st)) : zV G X nL bc bs S ly τ σ pc [l0, l1, l2, l3, some (.double x), l5, l6, l7, l8] st := by
  obtain ⟨p, l, e, R, s, m, args, below, meth, c0, Q⟩ := X
  obtain ⟨hx, hb, hml, hown, hts, hlk, hK, htr⟩ := hO
  intro H locs cells slots la hR hS h1 h2 hl
  exact lv_dload hx hb hdg (zLo_at hl rfl) (k H locs cells slots la hR hS h1 h2 hl)
theorem zr_nload_4 (hO : zOk G X own cc nL) (hdg : decode cc pc = .ok (.aload 4, 2)) (k : zV G X nL bc bs S ly τ σ (pc + 2) [l0, l1, l2, l3, some .null, l5, l6, l7, l8] (.null :: st)) : zV G X nL bc bs S ly τ σ pc [l0, l1, l2, l3, some .null, l5, l6, l7, l8] st := by
  obtain ⟨p, l, e, R, s, m, args, below, meth, c0, Q⟩ := X
  obtain ⟨hx, hb, hml, hown, hts, hlk, hK, htr⟩ := hO
  intro H locs cells slots la hR hS h1 h2 hl
  exact lv_aloadN hx hb hdg (zLo_at hl rfl) (k H locs cells slots la hR hS h1 h2 hl)
theorem zr_istore_4 (hO : zOk G X own cc nL) {x : Int32} (hdg : decode cc pc = .ok (.istore 4, 2)) (hnL : 4 < nL) (hp : zc1 l3 = true) (k : zV G X nL bc bs S ly τ σ (pc + 2) [l0, l1, l2, l3, some (.int x), l5, l6, l7, l8] st) : zV G X nL bc bs S ly τ σ pc [l0, l1, l2, l3, l4, l5, l6, l7, l8] (.int x :: st) := by
  obtain ⟨p, l, e, R, s, m, args, below, meth, c0, Q⟩ := X
  obtain ⟨hx, hb, hml, hown, hts, hlk, hK, htr⟩ := hO
  intro H locs cells slots la hR hS h1 h2 hl
  exact lv_istore hx hb hdg hl hnL rfl (fun la2 hl2 => k H locs cells slots la2 hR hS h1 h2 (zLo_set1 hl2 (fun j hj => by have h9 : j = 3 := (by omega); subst h9; exact hp)))
theorem zr_astore_4 (hO : zOk G X own cc nL) {x : Nat} (hdg : decode cc pc = .ok (.astore 4, 2)) (hnL : 4 < nL) (hp : zc1 l3 = true) (k : zV G X nL bc bs S ly τ σ (pc + 2) [l0, l1, l2, l3, some (.ref x), l5, l6, l7, l8] st) : zV G X nL bc bs S ly τ σ pc [l0, l1, l2, l3, l4, l5, l6, l7, l8] (.ref x :: st) := by
  obtain ⟨p, l, e, R, s, m, args, below, meth, c0, Q⟩ := X
  obtain ⟨hx, hb, hml, hown, hts, hlk, hK, htr⟩ := hO
  intro H locs cells slots la hR hS h1 h2 hl
  exact lv_astore hx hb hdg hl hnL rfl (fun la2 hl2 => k H locs cells slots la2 hR hS h1 h2 (zLo_set1 hl2 (fun j hj => by have h9 : j = 3 := (by omega); subst h9; exact hp)))
theorem zr_nstore_4 (hO : zOk G X own cc nL) (hdg : decode cc pc = .ok (.astore 4, 2)) (hnL : 4 < nL) (hp : zc1 l3 = true) (k : zV G X nL bc bs S ly τ σ (pc + 2) [l0, l1, l2, l3, some .null, l5, l6, l7, l8] st) : zV G X nL bc bs S ly τ σ pc [l0, l1, l2, l3, l4, l5, l6, l7, l8] (.null :: st) := by
  obtain ⟨p, l, e, R, s, m, args, below, meth, c0, Q⟩ := X
  obtain ⟨hx, hb, hml, hown, hts, hlk, hK, htr⟩ := hO
  intro H locs cells slots la hR hS h1 h2 hl
  exact lv_astoreN hx hb hdg hl hnL rfl (fun la2 hl2 => k H locs cells slots la2 hR hS h1 h2 (zLo_set1 hl2 (fun j hj => by have h9 : j = 3 := (by omega); subst h9; exact hp)))
theorem zr_lstore_4 (hO : zOk G X own cc nL) {x : Int64} (hdg : decode cc pc = .ok (.lstore 4, 2)) (hnL : 4 + 1 < nL) (hp : zc1 l3 = true) (k : zV G X nL bc bs S ly τ σ (pc + 2) [l0, l1, l2, l3, some (.long x), none, l6, l7, l8] st) : zV G X nL bc bs S ly τ σ pc [l0, l1, l2, l3, l4, l5, l6, l7, l8] (.long x :: st) := by
  obtain ⟨p, l, e, R, s, m, args, below, meth, c0, Q⟩ := X
  obtain ⟨hx, hb, hml, hown, hts, hlk, hK, htr⟩ := hO
  intro H locs cells slots la hR hS h1 h2 hl
  exact lv_lstore hx hb hdg hl hnL rfl (fun la2 hl2 => k H locs cells slots la2 hR hS h1 h2 (zLo_set2 hl2 (fun j hj => by have h9 : j = 3 := (by omega); subst h9; exact hp)))
theorem zr_dstore_4 (hO : zOk G X own cc nL) {x : UInt64} (hdg : decode cc pc = .ok (.dstore 4, 2)) (hnL : 4 + 1 < nL) (hp : zc1 l3 = true) (k : zV G X nL bc bs S ly τ σ (pc + 2) [l0, l1, l2, l3, some (.double x), none, l6, l7, l8] st) : zV G X nL bc bs S ly τ σ pc [l0, l1, l2, l3, l4, l5, l6, l7, l8] (.double x :: st) := by
  obtain ⟨p, l, e, R, s, m, args, below, meth, c0, Q⟩ := X
  obtain ⟨hx, hb, hml, hown, hts, hlk, hK, htr⟩ := hO
  intro H locs cells slots la hR hS h1 h2 hl
  exact lv_dstore hx hb hdg hl hnL rfl (fun la2 hl2 => k H locs cells slots la2 hR hS h1 h2 (zLo_set2 hl2 (fun j hj => by have h9 : j = 3 := (by omega); subst h9; exact hp)))
theorem zr_iinc_4 (hO : zOk G X own cc nL) {x v : Int32} {n : Int} (hdg : decode cc pc = .ok (.iinc 4 n, 3)) (hnL : 4 < nL) (hv : Int32.ofInt n = v) (hp : zc1 l3 = true) (k : zV G X nL bc bs S ly τ σ (pc + 3) [l0, l1, l2, l3, some (.int (x + v)), l5, l6, l7, l8] st) : zV G X nL bc bs S ly τ σ pc [l0, l1, l2, l3, some (.int x), l5, l6, l7, l8] st := by
  obtain ⟨p, l, e, R, s, m, args, below, meth, c0, Q⟩ := X
  obtain ⟨hx, hb, hml, hown, hts, hlk, hK, htr⟩ := hO
  intro H locs cells slots la hR hS h1 h2 hl
  subst hv
  obtain ⟨j, hj⟩ := List.getElem?_of_mem (zas_mem.mpr (show [l0, l1, l2, l3, some (.int x), l5, l6, l7, l8][4]? = some (some (Value.int x)) from rfl))
  exact lv_iinc (k := j) hx hb hdg hl hj rfl hnL rfl (fun la2 hl2 => k H locs cells slots la2 hR hS h1 h2 (zLo_set1 hl2 (fun j hj => by have h9 : j = 3 := (by omega); subst h9; exact hp)))
theorem zr_iload_5 (hO : zOk G X own cc nL) {x : Int32} (hdg : decode cc pc = .ok (.iload 5, 2)) (k : zV G X nL bc bs S ly τ σ (pc + 2) [l0, l1, l2, l3, l4, some (.int x), l6, l7, l8] (.int x :: st)) : zV G X nL bc bs S ly τ σ pc [l0, l1, l2, l3, l4, some (.int x), l6, l7, l8] st := by
  obtain ⟨p, l, e, R, s, m, args, below, meth, c0, Q⟩ := X
  obtain ⟨hx, hb, hml, hown, hts, hlk, hK, htr⟩ := hO
  intro H locs cells slots la hR hS h1 h2 hl
  exact lv_iload hx hb hdg (zLo_at hl rfl) (k H locs cells slots la hR hS h1 h2 hl)
theorem zr_lload_5 (hO : zOk G X own cc nL) {x : Int64} (hdg : decode cc pc = .ok (.lload 5, 2)) (k : zV G X nL bc bs S ly τ σ (pc + 2) [l0, l1, l2, l3, l4, some (.long x), l6, l7, l8] (.long x :: st)) : zV G X nL bc bs S ly τ σ pc [l0, l1, l2, l3, l4, some (.long x), l6, l7, l8] st := by
  obtain ⟨p, l, e, R, s, m, args, below, meth, c0, Q⟩ := X
  obtain ⟨hx, hb, hml, hown, hts, hlk, hK, htr⟩ := hO
  intro H locs cells slots la hR hS h1 h2 hl
  exact lv_lload hx hb hdg (zLo_at hl rfl) (k H locs cells slots la hR hS h1 h2 hl)
theorem zr_aload_5 (hO : zOk G X own cc nL) {x : Nat} (hdg : decode cc pc = .ok (.aload 5, 2)) (k : zV G X nL bc bs S ly τ σ (pc + 2) [l0, l1, l2, l3, l4, some (.ref x), l6, l7, l8] (.ref x :: st)) : zV G X nL bc bs S ly τ σ pc [l0, l1, l2, l3, l4, some (.ref x), l6, l7, l8] st := by
  obtain ⟨p, l, e, R, s, m, args, below, meth, c0, Q⟩ := X
  obtain ⟨hx, hb, hml, hown, hts, hlk, hK, htr⟩ := hO
  intro H locs cells slots la hR hS h1 h2 hl
  exact lv_aload hx hb hdg (zLo_at hl rfl) (k H locs cells slots la hR hS h1 h2 hl)
theorem zr_dload_5 (hO : zOk G X own cc nL) {x : UInt64} (hdg : decode cc pc = .ok (.dload 5, 2)) (k : zV G X nL bc bs S ly τ σ (pc + 2) [l0, l1, l2, l3, l4, some (.double x), l6, l7, l8] (.double x :: st)) : zV G X nL bc bs S ly τ σ pc [l0, l1, l2, l3, l4, some (.double x), l6, l7, l8] st := by
  obtain ⟨p, l, e, R, s, m, args, below, meth, c0, Q⟩ := X
  obtain ⟨hx, hb, hml, hown, hts, hlk, hK, htr⟩ := hO
  intro H locs cells slots la hR hS h1 h2 hl
  exact lv_dload hx hb hdg (zLo_at hl rfl) (k H locs cells slots la hR hS h1 h2 hl)
theorem zr_nload_5 (hO : zOk G X own cc nL) (hdg : decode cc pc = .ok (.aload 5, 2)) (k : zV G X nL bc bs S ly τ σ (pc + 2) [l0, l1, l2, l3, l4, some .null, l6, l7, l8] (.null :: st)) : zV G X nL bc bs S ly τ σ pc [l0, l1, l2, l3, l4, some .null, l6, l7, l8] st := by
  obtain ⟨p, l, e, R, s, m, args, below, meth, c0, Q⟩ := X
  obtain ⟨hx, hb, hml, hown, hts, hlk, hK, htr⟩ := hO
  intro H locs cells slots la hR hS h1 h2 hl
  exact lv_aloadN hx hb hdg (zLo_at hl rfl) (k H locs cells slots la hR hS h1 h2 hl)
theorem zr_istore_5 (hO : zOk G X own cc nL) {x : Int32} (hdg : decode cc pc = .ok (.istore 5, 2)) (hnL : 5 < nL) (hp : zc1 l4 = true) (k : zV G X nL bc bs S ly τ σ (pc + 2) [l0, l1, l2, l3, l4, some (.int x), l6, l7, l8] st) : zV G X nL bc bs S ly τ σ pc [l0, l1, l2, l3, l4, l5, l6, l7, l8] (.int x :: st) := by
  obtain ⟨p, l, e, R, s, m, args, below, meth, c0, Q⟩ := X
  obtain ⟨hx, hb, hml, hown, hts, hlk, hK, htr⟩ := hO
  intro H locs cells slots la hR hS h1 h2 hl
  exact lv_istore hx hb hdg hl hnL rfl (fun la2 hl2 => k H locs cells slots la2 hR hS h1 h2 (zLo_set1 hl2 (fun j hj => by have h9 : j = 4 := (by omega); subst h9; exact hp)))
theorem zr_astore_5 (hO : zOk G X own cc nL) {x : Nat} (hdg : decode cc pc = .ok (.astore 5, 2)) (hnL : 5 < nL) (hp : zc1 l4 = true) (k : zV G X nL bc bs S ly τ σ (pc + 2) [l0, l1, l2, l3, l4, some (.ref x), l6, l7, l8] st) : zV G X nL bc bs S ly τ σ pc [l0, l1, l2, l3, l4, l5, l6, l7, l8] (.ref x :: st) := by
  obtain ⟨p, l, e, R, s, m, args, below, meth, c0, Q⟩ := X
  obtain ⟨hx, hb, hml, hown, hts, hlk, hK, htr⟩ := hO
  intro H locs cells slots la hR hS h1 h2 hl
  exact lv_astore hx hb hdg hl hnL rfl (fun la2 hl2 => k H locs cells slots la2 hR hS h1 h2 (zLo_set1 hl2 (fun j hj => by have h9 : j = 4 := (by omega); subst h9; exact hp)))
theorem zr_nstore_5 (hO : zOk G X own cc nL) (hdg : decode cc pc = .ok (.astore 5, 2)) (hnL : 5 < nL) (hp : zc1 l4 = true) (k : zV G X nL bc bs S ly τ σ (pc + 2) [l0, l1, l2, l3, l4, some .null, l6, l7, l8] st) : zV G X nL bc bs S ly τ σ pc [l0, l1, l2, l3, l4, l5, l6, l7, l8] (.null :: st) := by
  obtain ⟨p, l, e, R, s, m, args, below, meth, c0, Q⟩ := X
  obtain ⟨hx, hb, hml, hown, hts, hlk, hK, htr⟩ := hO
  intro H locs cells slots la hR hS h1 h2 hl
  exact lv_astoreN hx hb hdg hl hnL rfl (fun la2 hl2 => k H locs cells slots la2 hR hS h1 h2 (zLo_set1 hl2 (fun j hj => by have h9 : j = 4 := (by omega); subst h9; exact hp)))
theorem zr_lstore_5 (hO : zOk G X own cc nL) {x : Int64} (hdg : decode cc pc = .ok (.lstore 5, 2)) (hnL : 5 + 1 < nL) (hp : zc1 l4 = true) (k : zV G X nL bc bs S ly τ σ (pc + 2) [l0, l1, l2, l3, l4, some (.long x), none, l7, l8] st) : zV G X nL bc bs S ly τ σ pc [l0, l1, l2, l3, l4, l5, l6, l7, l8] (.long x :: st) := by
  obtain ⟨p, l, e, R, s, m, args, below, meth, c0, Q⟩ := X
  obtain ⟨hx, hb, hml, hown, hts, hlk, hK, htr⟩ := hO
  intro H locs cells slots la hR hS h1 h2 hl
  exact lv_lstore hx hb hdg hl hnL rfl (fun la2 hl2 => k H locs cells slots la2 hR hS h1 h2 (zLo_set2 hl2 (fun j hj => by have h9 : j = 4 := (by omega); subst h9; exact hp)))
theorem zr_dstore_5 (hO : zOk G X own cc nL) {x : UInt64} (hdg : decode cc pc = .ok (.dstore 5, 2)) (hnL : 5 + 1 < nL) (hp : zc1 l4 = true) (k : zV G X nL bc bs S ly τ σ (pc + 2) [l0, l1, l2, l3, l4, some (.double x), none, l7, l8] st) : zV G X nL bc bs S ly τ σ pc [l0, l1, l2, l3, l4, l5, l6, l7, l8] (.double x :: st) := by
  obtain ⟨p, l, e, R, s, m, args, below, meth, c0, Q⟩ := X
  obtain ⟨hx, hb, hml, hown, hts, hlk, hK, htr⟩ := hO
  intro H locs cells slots la hR hS h1 h2 hl
  exact lv_dstore hx hb hdg hl hnL rfl (fun la2 hl2 => k H locs cells slots la2 hR hS h1 h2 (zLo_set2 hl2 (fun j hj => by have h9 : j = 4 := (by omega); subst h9; exact hp)))
theorem zr_iinc_5 (hO : zOk G X own cc nL) {x v : Int32} {n : Int} (hdg : decode cc pc = .ok (.iinc 5 n, 3)) (hnL : 5 < nL) (hv : Int32.ofInt n = v) (hp : zc1 l4 = true) (k : zV G X nL bc bs S ly τ σ (pc + 3) [l0, l1, l2, l3, l4, some (.int (x + v)), l6, l7, l8] st) : zV G X nL bc bs S ly τ σ pc [l0, l1, l2, l3, l4, some (.int x), l6, l7, l8] st := by
  obtain ⟨p, l, e, R, s, m, args, below, meth, c0, Q⟩ := X
  obtain ⟨hx, hb, hml, hown, hts, hlk, hK, htr⟩ := hO
  intro H locs cells slots la hR hS h1 h2 hl
  subst hv
  obtain ⟨j, hj⟩ := List.getElem?_of_mem (zas_mem.mpr (show [l0, l1, l2, l3, l4, some (.int x), l6, l7, l8][5]? = some (some (Value.int x)) from rfl))
  exact lv_iinc (k := j) hx hb hdg hl hj rfl hnL rfl (fun la2 hl2 => k H locs cells slots la2 hR hS h1 h2 (zLo_set1 hl2 (fun j hj => by have h9 : j = 4 := (by omega); subst h9; exact hp)))
theorem zr_iload_6 (hO : zOk G X own cc nL) {x : Int32} (hdg : decode cc pc = .ok (.iload 6, 2)) (k : zV G X nL bc bs S ly τ σ (pc + 2) [l0, l1, l2, l3, l4, l5, some (.int x), l7, l8] (.int x :: st)) : zV G X nL bc bs S ly τ σ pc [l0, l1, l2, l3, l4, l5, some (.int x), l7, l8] st := by
  obtain ⟨p, l, e, R, s, m, args, below, meth, c0, Q⟩ := X
  obtain ⟨hx, hb, hml, hown, hts, hlk, hK, htr⟩ := hO
  intro H locs cells slots la hR hS h1 h2 hl
  exact lv_iload hx hb hdg (zLo_at hl rfl) (k H locs cells slots la hR hS h1 h2 hl)
theorem zr_lload_6 (hO : zOk G X own cc nL) {x : Int64} (hdg : decode cc pc = .ok (.lload 6, 2)) (k : zV G X nL bc bs S ly τ σ (pc + 2) [l0, l1, l2, l3, l4, l5, some (.long x), l7, l8] (.long x :: st)) : zV G X nL bc bs S ly τ σ pc [l0, l1, l2, l3, l4, l5, some (.long x), l7, l8] st := by
  obtain ⟨p, l, e, R, s, m, args, below, meth, c0, Q⟩ := X
  obtain ⟨hx, hb, hml, hown, hts, hlk, hK, htr⟩ := hO
  intro H locs cells slots la hR hS h1 h2 hl
  exact lv_lload hx hb hdg (zLo_at hl rfl) (k H locs cells slots la hR hS h1 h2 hl)
theorem zr_aload_6 (hO : zOk G X own cc nL) {x : Nat} (hdg : decode cc pc = .ok (.aload 6, 2)) (k : zV G X nL bc bs S ly τ σ (pc + 2) [l0, l1, l2, l3, l4, l5, some (.ref x), l7, l8] (.ref x :: st)) : zV G X nL bc bs S ly τ σ pc [l0, l1, l2, l3, l4, l5, some (.ref x), l7, l8] st := by
  obtain ⟨p, l, e, R, s, m, args, below, meth, c0, Q⟩ := X
  obtain ⟨hx, hb, hml, hown, hts, hlk, hK, htr⟩ := hO
  intro H locs cells slots la hR hS h1 h2 hl
  exact lv_aload hx hb hdg (zLo_at hl rfl) (k H locs cells slots la hR hS h1 h2 hl)
theorem zr_dload_6 (hO : zOk G X own cc nL) {x : UInt64} (hdg : decode cc pc = .ok (.dload 6, 2)) (k : zV G X nL bc bs S ly τ σ (pc + 2) [l0, l1, l2, l3, l4, l5, some (.double x), l7, l8] (.double x :: st)) : zV G X nL bc bs S ly τ σ pc [l0, l1, l2, l3, l4, l5, some (.double x), l7, l8] st := by
  obtain ⟨p, l, e, R, s, m, args, below, meth, c0, Q⟩ := X
  obtain ⟨hx, hb, hml, hown, hts, hlk, hK, htr⟩ := hO
  intro H locs cells slots la hR hS h1 h2 hl
  exact lv_dload hx hb hdg (zLo_at hl rfl) (k H locs cells slots la hR hS h1 h2 hl)
theorem zr_nload_6 (hO : zOk G X own cc nL) (hdg : decode cc pc = .ok (.aload 6, 2)) (k : zV G X nL bc bs S ly τ σ (pc + 2) [l0, l1, l2, l3, l4, l5, some .null, l7, l8] (.null :: st)) : zV G X nL bc bs S ly τ σ pc [l0, l1, l2, l3, l4, l5, some .null, l7, l8] st := by
  obtain ⟨p, l, e, R, s, m, args, below, meth, c0, Q⟩ := X
  obtain ⟨hx, hb, hml, hown, hts, hlk, hK, htr⟩ := hO
  intro H locs cells slots la hR hS h1 h2 hl
  exact lv_aloadN hx hb hdg (zLo_at hl rfl) (k H locs cells slots la hR hS h1 h2 hl)
theorem zr_istore_6 (hO : zOk G X own cc nL) {x : Int32} (hdg : decode cc pc = .ok (.istore 6, 2)) (hnL : 6 < nL) (hp : zc1 l5 = true) (k : zV G X nL bc bs S ly τ σ (pc + 2) [l0, l1, l2, l3, l4, l5, some (.int x), l7, l8] st) : zV G X nL bc bs S ly τ σ pc [l0, l1, l2, l3, l4, l5, l6, l7, l8] (.int x :: st) := by
  obtain ⟨p, l, e, R, s, m, args, below, meth, c0, Q⟩ := X
  obtain ⟨hx, hb, hml, hown, hts, hlk, hK, htr⟩ := hO
  intro H locs cells slots la hR hS h1 h2 hl
  exact lv_istore hx hb hdg hl hnL rfl (fun la2 hl2 => k H locs cells slots la2 hR hS h1 h2 (zLo_set1 hl2 (fun j hj => by have h9 : j = 5 := (by omega); subst h9; exact hp)))
theorem zr_astore_6 (hO : zOk G X own cc nL) {x : Nat} (hdg : decode cc pc = .ok (.astore 6, 2)) (hnL : 6 < nL) (hp : zc1 l5 = true) (k : zV G X nL bc bs S ly τ σ (pc + 2) [l0, l1, l2, l3, l4, l5, some (.ref x), l7, l8] st) : zV G X nL bc bs S ly τ σ pc [l0, l1, l2, l3, l4, l5, l6, l7, l8] (.ref x :: st) := by
  obtain ⟨p, l, e, R, s, m, args, below, meth, c0, Q⟩ := X
  obtain ⟨hx, hb, hml, hown, hts, hlk, hK, htr⟩ := hO
  intro H locs cells slots la hR hS h1 h2 hl
  exact lv_astore hx hb hdg hl hnL rfl (fun la2 hl2 => k H locs cells slots la2 hR hS h1 h2 (zLo_set1 hl2 (fun j hj => by have h9 : j = 5 := (by omega); subst h9; exact hp)))
theorem zr_nstore_6 (hO : zOk G X own cc nL) (hdg : decode cc pc = .ok (.astore 6, 2)) (hnL : 6 < nL) (hp : zc1 l5 = true) (k : zV G X nL bc bs S ly τ σ (pc + 2) [l0, l1, l2, l3, l4, l5, some .null, l7, l8] st) : zV G X nL bc bs S ly τ σ pc [l0, l1, l2, l3, l4, l5, l6, l7, l8] (.null :: st) := by
  obtain ⟨p, l, e, R, s, m, args, below, meth, c0, Q⟩ := X
  obtain ⟨hx, hb, hml, hown, hts, hlk, hK, htr⟩ := hO
  intro H locs cells slots la hR hS h1 h2 hl
  exact lv_astoreN hx hb hdg hl hnL rfl (fun la2 hl2 => k H locs cells slots la2 hR hS h1 h2 (zLo_set1 hl2 (fun j hj => by have h9 : j = 5 := (by omega); subst h9; exact hp)))
theorem zr_lstore_6 (hO : zOk G X own cc nL) {x : Int64} (hdg : decode cc pc = .ok (.lstore 6, 2)) (hnL : 6 + 1 < nL) (hp : zc1 l5 = true) (k : zV G X nL bc bs S ly τ σ (pc + 2) [l0, l1, l2, l3, l4, l5, some (.long x), none, l8] st) : zV G X nL bc bs S ly τ σ pc [l0, l1, l2, l3, l4, l5, l6, l7, l8] (.long x :: st) := by
  obtain ⟨p, l, e, R, s, m, args, below, meth, c0, Q⟩ := X
  obtain ⟨hx, hb, hml, hown, hts, hlk, hK, htr⟩ := hO
  intro H locs cells slots la hR hS h1 h2 hl
  exact lv_lstore hx hb hdg hl hnL rfl (fun la2 hl2 => k H locs cells slots la2 hR hS h1 h2 (zLo_set2 hl2 (fun j hj => by have h9 : j = 5 := (by omega); subst h9; exact hp)))
theorem zr_dstore_6 (hO : zOk G X own cc nL) {x : UInt64} (hdg : decode cc pc = .ok (.dstore 6, 2)) (hnL : 6 + 1 < nL) (hp : zc1 l5 = true) (k : zV G X nL bc bs S ly τ σ (pc + 2) [l0, l1, l2, l3, l4, l5, some (.double x), none, l8] st) : zV G X nL bc bs S ly τ σ pc [l0, l1, l2, l3, l4, l5, l6, l7, l8] (.double x :: st) := by
  obtain ⟨p, l, e, R, s, m, args, below, meth, c0, Q⟩ := X
  obtain ⟨hx, hb, hml, hown, hts, hlk, hK, htr⟩ := hO
  intro H locs cells slots la hR hS h1 h2 hl
  exact lv_dstore hx hb hdg hl hnL rfl (fun la2 hl2 => k H locs cells slots la2 hR hS h1 h2 (zLo_set2 hl2 (fun j hj => by have h9 : j = 5 := (by omega); subst h9; exact hp)))
theorem zr_iinc_6 (hO : zOk G X own cc nL) {x v : Int32} {n : Int} (hdg : decode cc pc = .ok (.iinc 6 n, 3)) (hnL : 6 < nL) (hv : Int32.ofInt n = v) (hp : zc1 l5 = true) (k : zV G X nL bc bs S ly τ σ (pc + 3) [l0, l1, l2, l3, l4, l5, some (.int (x + v)), l7, l8] st) : zV G X nL bc bs S ly τ σ pc [l0, l1, l2, l3, l4, l5, some (.int x), l7, l8] st := by
  obtain ⟨p, l, e, R, s, m, args, below, meth, c0, Q⟩ := X
  obtain ⟨hx, hb, hml, hown, hts, hlk, hK, htr⟩ := hO
  intro H locs cells slots la hR hS h1 h2 hl
  subst hv
  obtain ⟨j, hj⟩ := List.getElem?_of_mem (zas_mem.mpr (show [l0, l1, l2, l3, l4, l5, some (.int x), l7, l8][6]? = some (some (Value.int x)) from rfl))
  exact lv_iinc (k := j) hx hb hdg hl hj rfl hnL rfl (fun la2 hl2 => k H locs cells slots la2 hR hS h1 h2 (zLo_set1 hl2 (fun j hj => by have h9 : j = 5 := (by omega); subst h9; exact hp)))
theorem zr_iload_7 (hO : zOk G X own cc nL) {x : Int32} (hdg : decode cc pc = .ok (.iload 7, 2)) (k : zV G X nL bc bs S ly τ σ (pc + 2) [l0, l1, l2, l3, l4, l5, l6, some (.int x), l8] (.int x :: st)) : zV G X nL bc bs S ly τ σ pc [l0, l1, l2, l3, l4, l5, l6, some (.int x), l8] st := by
  obtain ⟨p, l, e, R, s, m, args, below, meth, c0, Q⟩ := X
  obtain ⟨hx, hb, hml, hown, hts, hlk, hK, htr⟩ := hO
  intro H locs cells slots la hR hS h1 h2 hl
  exact lv_iload hx hb hdg (zLo_at hl rfl) (k H locs cells slots la hR hS h1 h2 hl)
theorem zr_lload_7 (hO : zOk G X own cc nL) {x : Int64} (hdg : decode cc pc = .ok (.lload 7, 2)) (k : zV G X nL bc bs S ly τ σ (pc + 2) [l0, l1, l2, l3, l4, l5, l6, some (.long x), l8] (.long x :: st)) : zV G X nL bc bs S ly τ σ pc [l0, l1, l2, l3, l4, l5, l6, some (.long x), l8] st := by
  obtain ⟨p, l, e, R, s, m, args, below, meth, c0, Q⟩ := X
  obtain ⟨hx, hb, hml, hown, hts, hlk, hK, htr⟩ := hO
  intro H locs cells slots la hR hS h1 h2 hl
  exact lv_lload hx hb hdg (zLo_at hl rfl) (k H locs cells slots la hR hS h1 h2 hl)
theorem zr_aload_7 (hO : zOk G X own cc nL) {x : Nat} (hdg : decode cc pc = .ok (.aload 7, 2)) (k : zV G X nL bc bs S ly τ σ (pc + 2) [l0, l1, l2, l3, l4, l5, l6, some (.ref x), l8] (.ref x :: st)) : zV G X nL bc bs S ly τ σ pc [l0, l1, l2, l3, l4, l5, l6, some (.ref x), l8] st := by
  obtain ⟨p, l, e, R, s, m, args, below, meth, c0, Q⟩ := X
  obtain ⟨hx, hb, hml, hown, hts, hlk, hK, htr⟩ := hO
  intro H locs cells slots la hR hS h1 h2 hl
  exact lv_aload hx hb hdg (zLo_at hl rfl) (k H locs cells slots la hR hS h1 h2 hl)
theorem zr_dload_7 (hO : zOk G X own cc nL) {x : UInt64} (hdg : decode cc pc = .ok (.dload 7, 2)) (k : zV G X nL bc bs S ly τ σ (pc + 2) [l0, l1, l2, l3, l4, l5, l6, some (.double x), l8] (.double x :: st)) : zV G X nL bc bs S ly τ σ pc [l0, l1, l2, l3, l4, l5, l6, some (.double x), l8] st := by
  obtain ⟨p, l, e, R, s, m, args, below, meth, c0, Q⟩ := X
  obtain ⟨hx, hb, hml, hown, hts, hlk, hK, htr⟩ := hO
  intro H locs cells slots la hR hS h1 h2 hl
  exact lv_dload hx hb hdg (zLo_at hl rfl) (k H locs cells slots la hR hS h1 h2 hl)
theorem zr_nload_7 (hO : zOk G X own cc nL) (hdg : decode cc pc = .ok (.aload 7, 2)) (k : zV G X nL bc bs S ly τ σ (pc + 2) [l0, l1, l2, l3, l4, l5, l6, some .null, l8] (.null :: st)) : zV G X nL bc bs S ly τ σ pc [l0, l1, l2, l3, l4, l5, l6, some .null, l8] st := by
  obtain ⟨p, l, e, R, s, m, args, below, meth, c0, Q⟩ := X
  obtain ⟨hx, hb, hml, hown, hts, hlk, hK, htr⟩ := hO
  intro H locs cells slots la hR hS h1 h2 hl
  exact lv_aloadN hx hb hdg (zLo_at hl rfl) (k H locs cells slots la hR hS h1 h2 hl)
theorem zr_istore_7 (hO : zOk G X own cc nL) {x : Int32} (hdg : decode cc pc = .ok (.istore 7, 2)) (hnL : 7 < nL) (hp : zc1 l6 = true) (k : zV G X nL bc bs S ly τ σ (pc + 2) [l0, l1, l2, l3, l4, l5, l6, some (.int x), l8] st) : zV G X nL bc bs S ly τ σ pc [l0, l1, l2, l3, l4, l5, l6, l7, l8] (.int x :: st) := by
  obtain ⟨p, l, e, R, s, m, args, below, meth, c0, Q⟩ := X
  obtain ⟨hx, hb, hml, hown, hts, hlk, hK, htr⟩ := hO
  intro H locs cells slots la hR hS h1 h2 hl
  exact lv_istore hx hb hdg hl hnL rfl (fun la2 hl2 => k H locs cells slots la2 hR hS h1 h2 (zLo_set1 hl2 (fun j hj => by have h9 : j = 6 := (by omega); subst h9; exact hp)))
theorem zr_astore_7 (hO : zOk G X own cc nL) {x : Nat} (hdg : decode cc pc = .ok (.astore 7, 2)) (hnL : 7 < nL) (hp : zc1 l6 = true) (k : zV G X nL bc bs S ly τ σ (pc + 2) [l0, l1, l2, l3, l4, l5, l6, some (.ref x), l8] st) : zV G X nL bc bs S ly τ σ pc [l0, l1, l2, l3, l4, l5, l6, l7, l8] (.ref x :: st) := by
  obtain ⟨p, l, e, R, s, m, args, below, meth, c0, Q⟩ := X
  obtain ⟨hx, hb, hml, hown, hts, hlk, hK, htr⟩ := hO
  intro H locs cells slots la hR hS h1 h2 hl
  exact lv_astore hx hb hdg hl hnL rfl (fun la2 hl2 => k H locs cells slots la2 hR hS h1 h2 (zLo_set1 hl2 (fun j hj => by have h9 : j = 6 := (by omega); subst h9; exact hp)))
theorem zr_nstore_7 (hO : zOk G X own cc nL) (hdg : decode cc pc = .ok (.astore 7, 2)) (hnL : 7 < nL) (hp : zc1 l6 = true) (k : zV G X nL bc bs S ly τ σ (pc + 2) [l0, l1, l2, l3, l4, l5, l6, some .null, l8] st) : zV G X nL bc bs S ly τ σ pc [l0, l1, l2, l3, l4, l5, l6, l7, l8] (.null :: st) := by
  obtain ⟨p, l, e, R, s, m, args, below, meth, c0, Q⟩ := X
  obtain ⟨hx, hb, hml, hown, hts, hlk, hK, htr⟩ := hO
  intro H locs cells slots la hR hS h1 h2 hl
  exact lv_astoreN hx hb hdg hl hnL rfl (fun la2 hl2 => k H locs cells slots la2 hR hS h1 h2 (zLo_set1 hl2 (fun j hj => by have h9 : j = 6 := (by omega); subst h9; exact hp)))
theorem zr_lstore_7 (hO : zOk G X own cc nL) {x : Int64} (hdg : decode cc pc = .ok (.lstore 7, 2)) (hnL : 7 + 1 < nL) (hp : zc1 l6 = true) (k : zV G X nL bc bs S ly τ σ (pc + 2) [l0, l1, l2, l3, l4, l5, l6, some (.long x), none] st) : zV G X nL bc bs S ly τ σ pc [l0, l1, l2, l3, l4, l5, l6, l7, l8] (.long x :: st) := by
  obtain ⟨p, l, e, R, s, m, args, below, meth, c0, Q⟩ := X
  obtain ⟨hx, hb, hml, hown, hts, hlk, hK, htr⟩ := hO
  intro H locs cells slots la hR hS h1 h2 hl
  exact lv_lstore hx hb hdg hl hnL rfl (fun la2 hl2 => k H locs cells slots la2 hR hS h1 h2 (zLo_set2 hl2 (fun j hj => by have h9 : j = 6 := (by omega); subst h9; exact hp)))
theorem zr_dstore_7 (hO : zOk G X own cc nL) {x : UInt64} (hdg : decode cc pc = .ok (.dstore 7, 2)) (hnL : 7 + 1 < nL) (hp : zc1 l6 = true) (k : zV G X nL bc bs S ly τ σ (pc + 2) [l0, l1, l2, l3, l4, l5, l6, some (.double x), none] st) : zV G X nL bc bs S ly τ σ pc [l0, l1, l2, l3, l4, l5, l6, l7, l8] (.double x :: st) := by
  obtain ⟨p, l, e, R, s, m, args, below, meth, c0, Q⟩ := X
  obtain ⟨hx, hb, hml, hown, hts, hlk, hK, htr⟩ := hO
  intro H locs cells slots la hR hS h1 h2 hl
  exact lv_dstore hx hb hdg hl hnL rfl (fun la2 hl2 => k H locs cells slots la2 hR hS h1 h2 (zLo_set2 hl2 (fun j hj => by have h9 : j = 6 := (by omega); subst h9; exact hp)))
theorem zr_iinc_7 (hO : zOk G X own cc nL) {x v : Int32} {n : Int} (hdg : decode cc pc = .ok (.iinc 7 n, 3)) (hnL : 7 < nL) (hv : Int32.ofInt n = v) (hp : zc1 l6 = true) (k : zV G X nL bc bs S ly τ σ (pc + 3) [l0, l1, l2, l3, l4, l5, l6, some (.int (x + v)), l8] st) : zV G X nL bc bs S ly τ σ pc [l0, l1, l2, l3, l4, l5, l6, some (.int x), l8] st := by
  obtain ⟨p, l, e, R, s, m, args, below, meth, c0, Q⟩ := X
  obtain ⟨hx, hb, hml, hown, hts, hlk, hK, htr⟩ := hO
  intro H locs cells slots la hR hS h1 h2 hl
  subst hv
  obtain ⟨j, hj⟩ := List.getElem?_of_mem (zas_mem.mpr (show [l0, l1, l2, l3, l4, l5, l6, some (.int x), l8][7]? = some (some (Value.int x)) from rfl))
  exact lv_iinc (k := j) hx hb hdg hl hj rfl hnL rfl (fun la2 hl2 => k H locs cells slots la2 hR hS h1 h2 (zLo_set1 hl2 (fun j hj => by have h9 : j = 6 := (by omega); subst h9; exact hp)))
theorem zr_iload_8 (hO : zOk G X own cc nL) {x : Int32} (hdg : decode cc pc = .ok (.iload 8, 2)) (k : zV G X nL bc bs S ly τ σ (pc + 2) [l0, l1, l2, l3, l4, l5, l6, l7, some (.int x)] (.int x :: st)) : zV G X nL bc bs S ly τ σ pc [l0, l1, l2, l3, l4, l5, l6, l7, some (.int x)] st := by
  obtain ⟨p, l, e, R, s, m, args, below, meth, c0, Q⟩ := X
  obtain ⟨hx, hb, hml, hown, hts, hlk, hK, htr⟩ := hO
  intro H locs cells slots la hR hS h1 h2 hl
  exact lv_iload hx hb hdg (zLo_at hl rfl) (k H locs cells slots la hR hS h1 h2 hl)
theorem zr_lload_8 (hO : zOk G X own cc nL) {x : Int64} (hdg : decode cc pc = .ok (.lload 8, 2)) (k : zV G X nL bc bs S ly τ σ (pc + 2) [l0, l1, l2, l3, l4, l5, l6, l7, some (.long x)] (.long x :: st)) : zV G X nL bc bs S ly τ σ pc [l0, l1, l2, l3, l4, l5, l6, l7, some (.long x)] st := by
  obtain ⟨p, l, e, R, s, m, args, below, meth, c0, Q⟩ := X
  obtain ⟨hx, hb, hml, hown, hts, hlk, hK, htr⟩ := hO
  intro H locs cells slots la hR hS h1 h2 hl
  exact lv_lload hx hb hdg (zLo_at hl rfl) (k H locs cells slots la hR hS h1 h2 hl)
theorem zr_aload_8 (hO : zOk G X own cc nL) {x : Nat} (hdg : decode cc pc = .ok (.aload 8, 2)) (k : zV G X nL bc bs S ly τ σ (pc + 2) [l0, l1, l2, l3, l4, l5, l6, l7, some (.ref x)] (.ref x :: st)) : zV G X nL bc bs S ly τ σ pc [l0, l1, l2, l3, l4, l5, l6, l7, some (.ref x)] st := by
  obtain ⟨p, l, e, R, s, m, args, below, meth, c0, Q⟩ := X
  obtain ⟨hx, hb, hml, hown, hts, hlk, hK, htr⟩ := hO
  intro H locs cells slots la hR hS h1 h2 hl
  exact lv_aload hx hb hdg (zLo_at hl rfl) (k H locs cells slots la hR hS h1 h2 hl)
theorem zr_dload_8 (hO : zOk G X own cc nL) {x : UInt64} (hdg : decode cc pc = .ok (.dload 8, 2)) (k : zV G X nL bc bs S ly τ σ (pc + 2) [l0, l1, l2, l3, l4, l5, l6, l7, some (.double x)] (.double x :: st)) : zV G X nL bc bs S ly τ σ pc [l0, l1, l2, l3, l4, l5, l6, l7, some (.double x)] st := by
  obtain ⟨p, l, e, R, s, m, args, below, meth, c0, Q⟩ := X
  obtain ⟨hx, hb, hml, hown, hts, hlk, hK, htr⟩ := hO
  intro H locs cells slots la hR hS h1 h2 hl
  exact lv_dload hx hb hdg (zLo_at hl rfl) (k H locs cells slots la hR hS h1 h2 hl)
theorem zr_nload_8 (hO : zOk G X own cc nL) (hdg : decode cc pc = .ok (.aload 8, 2)) (k : zV G X nL bc bs S ly τ σ (pc + 2) [l0, l1, l2, l3, l4, l5, l6, l7, some .null] (.null :: st)) : zV G X nL bc bs S ly τ σ pc [l0, l1, l2, l3, l4, l5, l6, l7, some .null] st := by
  obtain ⟨p, l, e, R, s, m, args, below, meth, c0, Q⟩ := X
  obtain ⟨hx, hb, hml, hown, hts, hlk, hK, htr⟩ := hO
  intro H locs cells slots la hR hS h1 h2 hl
  exact lv_aloadN hx hb hdg (zLo_at hl rfl) (k H locs cells slots la hR hS h1 h2 hl)
theorem zr_istore_8 (hO : zOk G X own cc nL) {x : Int32} (hdg : decode cc pc = .ok (.istore 8, 2)) (hnL : 8 < nL) (hp : zc1 l7 = true) (k : zV G X nL bc bs S ly τ σ (pc + 2) [l0, l1, l2, l3, l4, l5, l6, l7, some (.int x)] st) : zV G X nL bc bs S ly τ σ pc [l0, l1, l2, l3, l4, l5, l6, l7, l8] (.int x :: st) := by
  obtain ⟨p, l, e, R, s, m, args, below, meth, c0, Q⟩ := X
  obtain ⟨hx, hb, hml, hown, hts, hlk, hK, htr⟩ := hO
  intro H locs cells slots la hR hS h1 h2 hl
  exact lv_istore hx hb hdg hl hnL rfl (fun la2 hl2 => k H locs cells slots la2 hR hS h1 h2 (zLo_set1 hl2 (fun j hj => by have h9 : j = 7 := (by omega); subst h9; exact hp)))
theorem zr_astore_8 (hO : zOk G X own cc nL) {x : Nat} (hdg : decode cc pc = .ok (.astore 8, 2)) (hnL : 8 < nL) (hp : zc1 l7 = true) (k : zV G X nL bc bs S ly τ σ (pc + 2) [l0, l1, l2, l3, l4, l5, l6, l7, some (.ref x)] st) : zV G X nL bc bs S ly τ σ pc [l0, l1, l2, l3, l4, l5, l6, l7, l8] (.ref x :: st) := by
  obtain ⟨p, l, e, R, s, m, args, below, meth, c0, Q⟩ := X
  obtain ⟨hx, hb, hml, hown, hts, hlk, hK, htr⟩ := hO
  intro H locs cells slots la hR hS h1 h2 hl
  exact lv_astore hx hb hdg hl hnL rfl (fun la2 hl2 => k H locs cells slots la2 hR hS h1 h2 (zLo_set1 hl2 (fun j hj => by have h9 : j = 7 := (by omega); subst h9; exact hp)))
theorem zr_nstore_8 (hO : zOk G X own cc nL) (hdg : decode cc pc = .ok (.astore 8, 2)) (hnL : 8 < nL) (hp : zc1 l7 = true) (k : zV G X nL bc bs S ly τ σ (pc + 2) [l0, l1, l2, l3, l4, l5, l6, l7, some .null] st) : zV G X nL bc bs S ly τ σ pc [l0, l1, l2, l3, l4, l5, l6, l7, l8] (.null :: st) := by
  obtain ⟨p, l, e, R, s, m, args, below, meth, c0, Q⟩ := X
  obtain ⟨hx, hb, hml, hown, hts, hlk, hK, htr⟩ := hO
  intro H locs cells slots la hR hS h1 h2 hl
  exact lv_astoreN hx hb hdg hl hnL rfl (fun la2 hl2 => k H locs cells slots la2 hR hS h1 h2 (zLo_set1 hl2 (fun j hj => by have h9 : j = 7 := (by omega); subst h9; exact hp)))
theorem zr_iinc_8 (hO : zOk G X own cc nL) {x v : Int32} {n : Int} (hdg : decode cc pc = .ok (.iinc 8 n, 3)) (hnL : 8 < nL) (hv : Int32.ofInt n = v) (hp : zc1 l7 = true) (k : zV G X nL bc bs S ly τ σ (pc + 3) [l0, l1, l2, l3, l4, l5, l6, l7, some (.int (x + v))] st) : zV G X nL bc bs S ly τ σ pc [l0, l1, l2, l3, l4, l5, l6, l7, some (.int x)] st := by
  obtain ⟨p, l, e, R, s, m, args, below, meth, c0, Q⟩ := X
  obtain ⟨hx, hb, hml, hown, hts, hlk, hK, htr⟩ := hO
  intro H locs cells slots la hR hS h1 h2 hl
  subst hv
  obtain ⟨j, hj⟩ := List.getElem?_of_mem (zas_mem.mpr (show [l0, l1, l2, l3, l4, l5, l6, l7, some (.int x)][8]? = some (some (Value.int x)) from rfl))
  exact lv_iinc (k := j) hx hb hdg hl hj rfl hnL rfl (fun la2 hl2 => k H locs cells slots la2 hR hS h1 h2 (zLo_set1 hl2 (fun j hj => by have h9 : j = 7 := (by omega); subst h9; exact hp)))
theorem zr_if_eq (hO : zOk G X own cc nL) {x : Int32} {off : Int} {tgt : Nat} (hdg : decode cc pc = .ok (.ifCond .eq off, 3)) (ht : (pc : Int) + off = (tgt : Int)) (kt : x = 0 → zV G X nL bc bs S ly τ σ tgt ls st) (kf : ¬ x = 0 → zV G X nL bc bs S ly τ σ (pc + 3) ls st) : zV G X nL bc bs S ly τ σ pc ls (.int x :: st) := by
  obtain ⟨p, l, e, R, s, m, args, below, meth, c0, Q⟩ := X
  obtain ⟨hx, hb, hml, hown, hts, hlk, hK, htr⟩ := hO
  intro H locs cells slots la hR hS h1 h2 hl
  exact lv_if_eq hx hb hdg ht (fun hq => kt hq H locs cells slots la hR hS h1 h2 hl) (fun hq => kf hq H locs cells slots la hR hS h1 h2 hl)
theorem zr_if_ne (hO : zOk G X own cc nL) {x : Int32} {off : Int} {tgt : Nat} (hdg : decode cc pc = .ok (.ifCond .ne off, 3)) (ht : (pc : Int) + off = (tgt : Int)) (kt : ¬ x = 0 → zV G X nL bc bs S ly τ σ tgt ls st) (kf : x = 0 → zV G X nL bc bs S ly τ σ (pc + 3) ls st) : zV G X nL bc bs S ly τ σ pc ls (.int x :: st) := by
  obtain ⟨p, l, e, R, s, m, args, below, meth, c0, Q⟩ := X
  obtain ⟨hx, hb, hml, hown, hts, hlk, hK, htr⟩ := hO
  intro H locs cells slots la hR hS h1 h2 hl
  exact lv_if_ne hx hb hdg ht (fun hq => kt hq H locs cells slots la hR hS h1 h2 hl) (fun hq => kf hq H locs cells slots la hR hS h1 h2 hl)
theorem zr_if_lt (hO : zOk G X own cc nL) {x : Int32} {off : Int} {tgt : Nat} (hdg : decode cc pc = .ok (.ifCond .lt off, 3)) (ht : (pc : Int) + off = (tgt : Int)) (kt : x < 0 → zV G X nL bc bs S ly τ σ tgt ls st) (kf : ¬ x < 0 → zV G X nL bc bs S ly τ σ (pc + 3) ls st) : zV G X nL bc bs S ly τ σ pc ls (.int x :: st) := by
  obtain ⟨p, l, e, R, s, m, args, below, meth, c0, Q⟩ := X
  obtain ⟨hx, hb, hml, hown, hts, hlk, hK, htr⟩ := hO
  intro H locs cells slots la hR hS h1 h2 hl
  exact lv_if_lt hx hb hdg ht (fun hq => kt hq H locs cells slots la hR hS h1 h2 hl) (fun hq => kf hq H locs cells slots la hR hS h1 h2 hl)
theorem zr_if_ge (hO : zOk G X own cc nL) {x : Int32} {off : Int} {tgt : Nat} (hdg : decode cc pc = .ok (.ifCond .ge off, 3)) (ht : (pc : Int) + off = (tgt : Int)) (kt : ¬ x < 0 → zV G X nL bc bs S ly τ σ tgt ls st) (kf : x < 0 → zV G X nL bc bs S ly τ σ (pc + 3) ls st) : zV G X nL bc bs S ly τ σ pc ls (.int x :: st) := by
  obtain ⟨p, l, e, R, s, m, args, below, meth, c0, Q⟩ := X
  obtain ⟨hx, hb, hml, hown, hts, hlk, hK, htr⟩ := hO
  intro H locs cells slots la hR hS h1 h2 hl
  exact lv_if_ge hx hb hdg ht (fun hq => kt (Int32.not_lt.mpr hq) H locs cells slots la hR hS h1 h2 hl) (fun hq => kf (Int32.not_le.mp hq) H locs cells slots la hR hS h1 h2 hl)
theorem zr_if_gt (hO : zOk G X own cc nL) {x : Int32} {off : Int} {tgt : Nat} (hdg : decode cc pc = .ok (.ifCond .gt off, 3)) (ht : (pc : Int) + off = (tgt : Int)) (kt : 0 < x → zV G X nL bc bs S ly τ σ tgt ls st) (kf : ¬ 0 < x → zV G X nL bc bs S ly τ σ (pc + 3) ls st) : zV G X nL bc bs S ly τ σ pc ls (.int x :: st) := by
  obtain ⟨p, l, e, R, s, m, args, below, meth, c0, Q⟩ := X
  obtain ⟨hx, hb, hml, hown, hts, hlk, hK, htr⟩ := hO
  intro H locs cells slots la hR hS h1 h2 hl
  exact lv_if_gt hx hb hdg ht (fun hq => kt hq H locs cells slots la hR hS h1 h2 hl) (fun hq => kf hq H locs cells slots la hR hS h1 h2 hl)
theorem zr_if_le (hO : zOk G X own cc nL) {x : Int32} {off : Int} {tgt : Nat} (hdg : decode cc pc = .ok (.ifCond .le off, 3)) (ht : (pc : Int) + off = (tgt : Int)) (kt : ¬ 0 < x → zV G X nL bc bs S ly τ σ tgt ls st) (kf : 0 < x → zV G X nL bc bs S ly τ σ (pc + 3) ls st) : zV G X nL bc bs S ly τ σ pc ls (.int x :: st) := by
  obtain ⟨p, l, e, R, s, m, args, below, meth, c0, Q⟩ := X
  obtain ⟨hx, hb, hml, hown, hts, hlk, hK, htr⟩ := hO
  intro H locs cells slots la hR hS h1 h2 hl
  exact lv_if_le hx hb hdg ht (fun hq => kt (Int32.not_lt.mpr hq) H locs cells slots la hR hS h1 h2 hl) (fun hq => kf (Int32.not_le.mp hq) H locs cells slots la hR hS h1 h2 hl)
theorem zr_icmp_eq (hO : zOk G X own cc nL) {x y : Int32} {off : Int} {tgt : Nat} (hdg : decode cc pc = .ok (.if_icmp .eq off, 3)) (ht : (pc : Int) + off = (tgt : Int)) (kt : x = y → zV G X nL bc bs S ly τ σ tgt ls st) (kf : ¬ x = y → zV G X nL bc bs S ly τ σ (pc + 3) ls st) : zV G X nL bc bs S ly τ σ pc ls (.int y :: .int x :: st) := by
  obtain ⟨p, l, e, R, s, m, args, below, meth, c0, Q⟩ := X
  obtain ⟨hx, hb, hml, hown, hts, hlk, hK, htr⟩ := hO
  intro H locs cells slots la hR hS h1 h2 hl
  exact lv_icmp_eq hx hb hdg ht (fun hq => kt hq H locs cells slots la hR hS h1 h2 hl) (fun hq => kf hq H locs cells slots la hR hS h1 h2 hl)
theorem zr_icmp_ne (hO : zOk G X own cc nL) {x y : Int32} {off : Int} {tgt : Nat} (hdg : decode cc pc = .ok (.if_icmp .ne off, 3)) (ht : (pc : Int) + off = (tgt : Int)) (kt : ¬ x = y → zV G X nL bc bs S ly τ σ tgt ls st) (kf : x = y → zV G X nL bc bs S ly τ σ (pc + 3) ls st) : zV G X nL bc bs S ly τ σ pc ls (.int y :: .int x :: st) := by
  obtain ⟨p, l, e, R, s, m, args, below, meth, c0, Q⟩ := X
  obtain ⟨hx, hb, hml, hown, hts, hlk, hK, htr⟩ := hO
  intro H locs cells slots la hR hS h1 h2 hl
  exact lv_icmp_ne hx hb hdg ht (fun hq => kt hq H locs cells slots la hR hS h1 h2 hl) (fun hq => kf hq H locs cells slots la hR hS h1 h2 hl)
theorem zr_icmp_lt (hO : zOk G X own cc nL) {x y : Int32} {off : Int} {tgt : Nat} (hdg : decode cc pc = .ok (.if_icmp .lt off, 3)) (ht : (pc : Int) + off = (tgt : Int)) (kt : x < y → zV G X nL bc bs S ly τ σ tgt ls st) (kf : ¬ x < y → zV G X nL bc bs S ly τ σ (pc + 3) ls st) : zV G X nL bc bs S ly τ σ pc ls (.int y :: .int x :: st) := by
  obtain ⟨p, l, e, R, s, m, args, below, meth, c0, Q⟩ := X
  obtain ⟨hx, hb, hml, hown, hts, hlk, hK, htr⟩ := hO
  intro H locs cells slots la hR hS h1 h2 hl
  exact lv_icmp_lt hx hb hdg ht (fun hq => kt hq H locs cells slots la hR hS h1 h2 hl) (fun hq => kf hq H locs cells slots la hR hS h1 h2 hl)
theorem zr_icmp_ge (hO : zOk G X own cc nL) {x y : Int32} {off : Int} {tgt : Nat} (hdg : decode cc pc = .ok (.if_icmp .ge off, 3)) (ht : (pc : Int) + off = (tgt : Int)) (kt : ¬ x < y → zV G X nL bc bs S ly τ σ tgt ls st) (kf : x < y → zV G X nL bc bs S ly τ σ (pc + 3) ls st) : zV G X nL bc bs S ly τ σ pc ls (.int y :: .int x :: st) := by
  obtain ⟨p, l, e, R, s, m, args, below, meth, c0, Q⟩ := X
  obtain ⟨hx, hb, hml, hown, hts, hlk, hK, htr⟩ := hO
  intro H locs cells slots la hR hS h1 h2 hl
  exact lv_icmp_ge hx hb hdg ht (fun hq => kt (Int32.not_lt.mpr hq) H locs cells slots la hR hS h1 h2 hl) (fun hq => kf (Int32.not_le.mp hq) H locs cells slots la hR hS h1 h2 hl)
theorem zr_icmp_gt (hO : zOk G X own cc nL) {x y : Int32} {off : Int} {tgt : Nat} (hdg : decode cc pc = .ok (.if_icmp .gt off, 3)) (ht : (pc : Int) + off = (tgt : Int)) (kt : y < x → zV G X nL bc bs S ly τ σ tgt ls st) (kf : ¬ y < x → zV G X nL bc bs S ly τ σ (pc + 3) ls st) : zV G X nL bc bs S ly τ σ pc ls (.int y :: .int x :: st) := by
  obtain ⟨p, l, e, R, s, m, args, below, meth, c0, Q⟩ := X
  obtain ⟨hx, hb, hml, hown, hts, hlk, hK, htr⟩ := hO
  intro H locs cells slots la hR hS h1 h2 hl
  exact lv_icmp_gt hx hb hdg ht (fun hq => kt hq H locs cells slots la hR hS h1 h2 hl) (fun hq => kf hq H locs cells slots la hR hS h1 h2 hl)
theorem zr_icmp_le (hO : zOk G X own cc nL) {x y : Int32} {off : Int} {tgt : Nat} (hdg : decode cc pc = .ok (.if_icmp .le off, 3)) (ht : (pc : Int) + off = (tgt : Int)) (kt : ¬ y < x → zV G X nL bc bs S ly τ σ tgt ls st) (kf : y < x → zV G X nL bc bs S ly τ σ (pc + 3) ls st) : zV G X nL bc bs S ly τ σ pc ls (.int y :: .int x :: st) := by
  obtain ⟨p, l, e, R, s, m, args, below, meth, c0, Q⟩ := X
  obtain ⟨hx, hb, hml, hown, hts, hlk, hK, htr⟩ := hO
  intro H locs cells slots la hR hS h1 h2 hl
  exact lv_icmp_le hx hb hdg ht (fun hq => kt (Int32.not_lt.mpr hq) H locs cells slots la hR hS h1 h2 hl) (fun hq => kf (Int32.not_le.mp hq) H locs cells slots la hR hS h1 h2 hl)
theorem zr_ifb_eq (hO : zOk G X own cc nL) {b : Bool} {off : Int} {tgt : Nat} (hdg : decode cc pc = .ok (.ifCond .eq off, 3)) (ht : (pc : Int) + off = (tgt : Int)) (kt : b = false → zV G X nL bc bs S ly τ σ tgt ls st) (kf : b = true → zV G X nL bc bs S ly τ σ (pc + 3) ls st) : zV G X nL bc bs S ly τ σ pc ls (.int (zb b) :: st) := zr_if_eq hO hdg ht (fun h => kt ((zb_0 b).mp h)) (fun h => kf (by cases b; exact absurd rfl h; rfl))
theorem zr_ifb_ne (hO : zOk G X own cc nL) {b : Bool} {off : Int} {tgt : Nat} (hdg : decode cc pc = .ok (.ifCond .ne off, 3)) (ht : (pc : Int) + off = (tgt : Int)) (kt : b = true → zV G X nL bc bs S ly τ σ tgt ls st) (kf : b = false → zV G X nL bc bs S ly τ σ (pc + 3) ls st) : zV G X nL bc bs S ly τ σ pc ls (.int (zb b) :: st) := zr_if_ne hO hdg ht (fun h => kt (by cases b; exact absurd rfl h; rfl)) (fun h => kf ((zb_0 b).mp h))
theorem zr_lcmp_eq (hO : zOk G X own cc nL) {x y : Int64} {off : Int} {tgt : Nat} (hdg : decode cc pc = .ok (.lcmp, 1)) (hdg2 : decode cc (pc + 1) = .ok (.ifCond .eq off, 3)) (ht : ((pc + 1 : Nat) : Int) + off = (tgt : Int)) (kt : x = y → zV G X nL bc bs S ly τ σ tgt ls st) (kf : ¬ x = y → zV G X nL bc bs S ly τ σ (pc + 1 + 3) ls st) : zV G X nL bc bs S ly τ σ pc ls (.long y :: .long x :: st) := by
  obtain ⟨p, l, e, R, s, m, args, below, meth, c0, Q⟩ := X
  obtain ⟨hx, hb, hml, hown, hts, hlk, hK, htr⟩ := hO
  intro H locs cells slots la hR hS h1 h2 hl
  refine W.lcmp hx hb hdg (lv_if_eq hx hb hdg2 ht (fun hq => kt ((lg_cmp_eq x y).mp hq) H locs cells slots la hR hS h1 h2 hl) (fun hq => kf (fun h => hq ((lg_cmp_eq x y).mpr h)) H locs cells slots la hR hS h1 h2 hl))
theorem zr_goto (hO : zOk G X own cc nL) {off : Int} {tgt : Nat} (hdg : decode cc pc = .ok (.goto off, 3)) (ht : (pc : Int) + off = (tgt : Int)) (k : zV G X nL bc bs S ly τ σ tgt ls (st)) : zV G X nL bc bs S ly τ σ pc ls (st) := by
  obtain ⟨p, l, e, R, s, m, args, below, meth, c0, Q⟩ := X
  obtain ⟨hx, hb, hml, hown, hts, hlk, hK, htr⟩ := hO
  intro H locs cells slots la hR hS h1 h2 hl
  exact lv_goto hx hb hdg ht (k H locs cells slots la hR hS h1 h2 hl)
theorem zr_ifnonnull (hO : zOk G X own cc nL) {a : Nat} {off : Int} {tgt : Nat} (hdg : decode cc pc = .ok (.ifnonnull off, 3)) (ht : (pc : Int) + off = (tgt : Int)) (k : zV G X nL bc bs S ly τ σ tgt ls (st)) : zV G X nL bc bs S ly τ σ pc ls (.ref a :: st) := by
  obtain ⟨p, l, e, R, s, m, args, below, meth, c0, Q⟩ := X
  obtain ⟨hx, hb, hml, hown, hts, hlk, hK, htr⟩ := hO
  intro H locs cells slots la hR hS h1 h2 hl
  exact lv_ifnonnull hx hb hdg ht (k H locs cells slots la hR hS h1 h2 hl)
theorem zr_ifnull (hO : zOk G X own cc nL) {a : Nat} {off : Int} (hdg : decode cc pc = .ok (.ifnull off, 3)) (k : zV G X nL bc bs S ly τ σ (pc + 3) ls (st)) : zV G X nL bc bs S ly τ σ pc ls (.ref a :: st) := by
  obtain ⟨p, l, e, R, s, m, args, below, meth, c0, Q⟩ := X
  obtain ⟨hx, hb, hml, hown, hts, hlk, hK, htr⟩ := hO
  intro H locs cells slots la hR hS h1 h2 hl
  exact lv_ifnull hx hb hdg (k H locs cells slots la hR hS h1 h2 hl)
theorem zr_ifnullN (hO : zOk G X own cc nL) {off : Int} {tgt : Nat} (hdg : decode cc pc = .ok (.ifnull off, 3)) (ht : (pc : Int) + off = (tgt : Int)) (k : zV G X nL bc bs S ly τ σ tgt ls (st)) : zV G X nL bc bs S ly τ σ pc ls (.null :: st) := by
  obtain ⟨p, l, e, R, s, m, args, below, meth, c0, Q⟩ := X
  obtain ⟨hx, hb, hml, hown, hts, hlk, hK, htr⟩ := hO
  intro H locs cells slots la hR hS h1 h2 hl
  exact lv_ifnullN hx hb hdg ht (k H locs cells slots la hR hS h1 h2 hl)
theorem zr_ifnonnullN (hO : zOk G X own cc nL) {off : Int} (hdg : decode cc pc = .ok (.ifnonnull off, 3)) (k : zV G X nL bc bs S ly τ σ (pc + 3) ls (st)) : zV G X nL bc bs S ly τ σ pc ls (.null :: st) := by
  obtain ⟨p, l, e, R, s, m, args, below, meth, c0, Q⟩ := X
  obtain ⟨hx, hb, hml, hown, hts, hlk, hK, htr⟩ := hO
  intro H locs cells slots la hR hS h1 h2 hl
  exact lv_ifnonnullN hx hb hdg (k H locs cells slots la hR hS h1 h2 hl)
theorem zr_lookup (hO : zOk G X own cc nL) {dflt : Int} {ps : Array (Int × Int)} {len : Nat} {x : Int32} {off : Int} {tgt : Nat} (hdg : decode cc pc = .ok (.lookupswitch dflt ps, len)) (hp : (ps.toList.zip (ps.toList.drop 1)).all (fun (a, next) => a.1 < next.1) = true) (ho : Op.lookupswitch.offset ps.toList dflt x.toInt = off) (ht : (pc : Int) + off = (tgt : Int)) (k : zV G X nL bc bs S ly τ σ tgt ls (st)) : zV G X nL bc bs S ly τ σ pc ls (.int x :: st) := by
  obtain ⟨p, l, e, R, s, m, args, below, meth, c0, Q⟩ := X
  obtain ⟨hx, hb, hml, hown, hts, hlk, hK, htr⟩ := hO
  intro H locs cells slots la hR hS h1 h2 hl
  exact lv_lookup hx hb hdg hp ho ht (k H locs cells slots la hR hS h1 h2 hl)
theorem zr_tableOut (hO : zOk G X own cc nL) {dflt lo hi : Int} {offs : Array Int} {len : Nat} {x : Int32} {tgt : Nat} (hdg : decode cc pc = .ok (.tableswitch dflt lo hi offs, len)) (h : x.toInt < lo ∨ hi < x.toInt) (ht : (pc : Int) + dflt = (tgt : Int)) (k : zV G X nL bc bs S ly τ σ tgt ls (st)) : zV G X nL bc bs S ly τ σ pc ls (.int x :: st) := by
  obtain ⟨p, l, e, R, s, m, args, below, meth, c0, Q⟩ := X
  obtain ⟨hx, hb, hml, hown, hts, hlk, hK, htr⟩ := hO
  intro H locs cells slots la hR hS h1 h2 hl
  exact lv_tableOut hx hb hdg h ht (k H locs cells slots la hR hS h1 h2 hl)
theorem zr_tableIn (hO : zOk G X own cc nL) {dflt lo hi : Int} {offs : Array Int} {len : Nat} {x : Int32} {off : Int} {tgt : Nat} (hdg : decode cc pc = .ok (.tableswitch dflt lo hi offs, len)) (g1 : ¬ x.toInt < lo) (g2 : ¬ hi < x.toInt) (ho : offs[(x.toInt - lo).toNat]? = some off) (ht : (pc : Int) + off = (tgt : Int)) (k : zV G X nL bc bs S ly τ σ tgt ls (st)) : zV G X nL bc bs S ly τ σ pc ls (.int x :: st) := by
  obtain ⟨p, l, e, R, s, m, args, below, meth, c0, Q⟩ := X
  obtain ⟨hx, hb, hml, hown, hts, hlk, hK, htr⟩ := hO
  intro H locs cells slots la hR hS h1 h2 hl
  exact lv_tableIn hx hb hdg g1 g2 ho ht (k H locs cells slots la hR hS h1 h2 hl)
theorem zr_acmp_eq (hO : zOk G X own cc nL) {a b : Nat} {off : Int} {tgt : Nat} (hdg : decode cc pc = .ok (.if_acmp .eq off, 3)) (ht : (pc : Int) + off = (tgt : Int)) (kt : a = b → zV G X nL bc bs S ly τ σ tgt ls st) (kf : ¬ a = b → zV G X nL bc bs S ly τ σ (pc + 3) ls st) : zV G X nL bc bs S ly τ σ pc ls (.ref b :: .ref a :: st) := by
  obtain ⟨p, l, e, R, s, m, args, below, meth, c0, Q⟩ := X
  obtain ⟨hx, hb, hml, hown, hts, hlk, hK, htr⟩ := hO
  intro H locs cells slots la hR hS h1 h2 hl
  exact lv_acmp_eq (rx := some a) (ry := some b) hx hb hdg ht (fun hq => kt (by simpa using hq) H locs cells slots la hR hS h1 h2 hl) (fun hq => kf (by simpa using hq) H locs cells slots la hR hS h1 h2 hl)
theorem zr_ldc2 (hO : zOk G X own cc nL) {index : Nat} {v : Int64} (hw : (Jvm.Cond.constantLong own index v) ∈ lw_tbl) (hg : goodWord (Jvm.Cond.constantLong own index v) = true) (hdg : decode cc pc = .ok (.ldc2_w index, 3)) (k : zV G X nL bc bs S ly τ σ (pc + 3) ls (.long v :: st)) : zV G X nL bc bs S ly τ σ pc ls st := by
  obtain ⟨p, l, e, R, s, m, args, below, meth, c0, Q⟩ := X
  obtain ⟨hx, hb, hml, hown, hts, hlk, hK, htr⟩ := hO
  intro H locs cells slots la hR hS h1 h2 hl
  exact lv_ldc2 hx hb hown (hts _ hw hg) hdg (k H locs cells slots la hR hS h1 h2 hl)
theorem zP1 {D : va_G} {cl : List vw_C} {H : Heap} {q : Nat × va_E} (h : va_at D cl q H) : va_P D cl [q] H := by
  intro k q' hk
  have hz : k < 1 := (List.getElem?_eq_some_iff.mp hk).1
  rw [show k = 0 by omega] at hk
  cases hk
  exact h
theorem zobj {G : zGm} {c n : Nat} {rf : Nat → Option Nat} {x : Nat → Int32} {y : Nat → Int64} : zcell G (c + 5, n, rf) x y = some (.inr (c, zfs c x y rf)) := rfl
theorem zfs_at {c k : Nat} (hk : k < zN c) (x : Nat → Int32) (y : Nat → Int64) (r : Nat → Option Nat) : (zfs c x y r)[k]? = some (zfv (zty c k) (x k) (y k) (r k)) := by
  unfold zfs
  rw [List.getElem?_map, List.getElem?_range hk]
  rfl
theorem zfs_len (c : Nat) (x : Nat → Int32) (y : Nat → Int64) (r : Nat → Option Nat) : (zfs c x y r).length = zN c := by simp [zfs]
theorem zhts {s : State} {args : Array Value} (hts : ∀ w ∈ lw_tbl, goodWord w = true → w.before args s = true) {c : Nat} (hc : c < 8) : ∀ w ∈ u_ws (zRn c) (zT c) (zN c), w.before args s = true := by
  intro w hw
  refine hts w (zy_all hc w hw) ?_
  obtain ⟨k, -, rfl⟩ := List.mem_map.mp hw
  unfold u_lay
  split <;> rfl
theorem zr_getf (hO : zOk G X own cc nL) {index c k n a : Nat} {rf : Nat → Option Nat} (hc : c < 8) (hk : k < zN c) (hw : (Cond.fieldLink own index (zRn c) (zT c k).2.1 (zT c k).2.2.1) ∈ lw_tbl) (hly : ly a = (c + 5, n, rf)) {v : Value} (hv : zfv (zty c k) (σ a k) (τ a k) (rf k) = v) (hdg : decode cc pc = .ok (.getfield index, 3)) (kk : zV G X nL bc bs S ly τ σ (pc + 3) ls (v :: st)) : zV G X nL bc bs S ly τ σ pc ls (.ref a :: st) := by
  obtain ⟨p, l, e, R, s, m, args, below, meth, c0, Q⟩ := X
  obtain ⟨hx, hb, hml, hown, hts, hlk, hK, htr⟩ := hO
  intro H locs cells slots la hR hS h1 h2 hl
  have he : zcell G (ly a) (σ a) (τ a) = some (.inr (c, zfs c (σ a) (τ a) rf)) := by rw [hly]; rfl
  exact va_get hx hb (zhts hts hc) (fun w h => h) hown hK.1 (zP1 (hR.2 a _ he).2) 0 rfl (zcl_at hc) k hk (hts _ hw rfl) (fun x hx => by rw [zT_own hc hk] at hx; exact hx) (by rw [zfs_at hk, hv]) hdg (kk H locs cells slots la hR hS h1 h2 hl)
theorem zr_getfi (hO : zOk G X own cc nL) {index c k n a : Nat} {rf : Nat → Option Nat} (hc : c < 8) (hk : k < zN c) (hw : (Cond.fieldLink own index (zRn c) (zT c k).2.1 (zT c k).2.2.1) ∈ lw_tbl) (hly : ly a = (c + 5, n, rf)) (hty : zty c k = .int) (hdg : decode cc pc = .ok (.getfield index, 3)) (kk : zV G X nL bc bs S ly τ σ (pc + 3) ls (.int (σ a k) :: st)) : zV G X nL bc bs S ly τ σ pc ls (.ref a :: st) :=
  zr_getf hO hc hk hw hly (by rw [hty]; rfl) hdg kk
theorem zr_getfl (hO : zOk G X own cc nL) {index c k n a : Nat} {rf : Nat → Option Nat} (hc : c < 8) (hk : k < zN c) (hw : (Cond.fieldLink own index (zRn c) (zT c k).2.1 (zT c k).2.2.1) ∈ lw_tbl) (hly : ly a = (c + 5, n, rf)) (hty : zty c k = .long) (hdg : decode cc pc = .ok (.getfield index, 3)) (kk : zV G X nL bc bs S ly τ σ (pc + 3) ls (.long (τ a k) :: st)) : zV G X nL bc bs S ly τ σ pc ls (.ref a :: st) :=
  zr_getf hO hc hk hw hly (by rw [hty]; rfl) hdg kk
def zisr (t : FieldType) : Bool := match t with
  | .int => false
  | .long => false
  | _ => true
theorem zfv_r {t : FieldType} (h : zisr t = true) (x : Int32) (y : Int64) (r : Option Nat) : zfv t x y r = va_rf r := by
  cases t <;> first | rfl | cases h
theorem zr_getfr (hO : zOk G X own cc nL) {index c k n a r : Nat} {rf : Nat → Option Nat} (hc : c < 8) (hk : k < zN c) (hw : (Cond.fieldLink own index (zRn c) (zT c k).2.1 (zT c k).2.2.1) ∈ lw_tbl) (hly : ly a = (c + 5, n, rf)) (hty : zisr (zty c k) = true) (hr : rf k = some r) (hdg : decode cc pc = .ok (.getfield index, 3)) (kk : zV G X nL bc bs S ly τ σ (pc + 3) ls (.ref r :: st)) : zV G X nL bc bs S ly τ σ pc ls (.ref a :: st) :=
  zr_getf hO hc hk hw hly (by rw [zfv_r hty, hr]; rfl) hdg kk
theorem zr_putf (hO : zOk G X own cc nL) {index c k n a : Nat} {rf rf' : Nat → Option Nat} (hc : c < 8) (hk : k < zN c) (hw : (Cond.fieldLink own index (zRn c) (zT c k).2.1 (zT c k).2.2.1) ∈ lw_tbl) (hly : ly a = (c + 5, n, rf)) (hfin : (zT c k).2.2.2 = false) {v : Value} {σ' : zSg} {τ' : zTu} {ly' : zLy}
    (hn : narrow (zty c k) v = v) (hf : fits (zty c k) v = true) (hly' : ly' a = (c + 5, n, rf')) (hfs : (zfs c (σ a) (τ a) rf).set k v = zfs c (σ' a) (τ' a) rf') (ho : ∀ x, x ≠ a → ly' x = ly x ∧ σ' x = σ x ∧ τ' x = τ x)
    (hdg : decode cc pc = .ok (.putfield index, 3)) (kk : zV G X nL bc bs S ly' τ' σ' (pc + 3) ls st) : zV G X nL bc bs S ly τ σ pc ls (v :: .ref a :: st) := by
  obtain ⟨p, l, e, R, s, m, args, below, meth, c0, Q⟩ := X
  obtain ⟨hx, hb, hml, hown, hts, hlk, hK, htr⟩ := hO
  intro H locs cells slots la hR hS h1 h2 hl
  have he : zcell G (ly a) (σ a) (τ a) = some (.inr (c, zfs c (σ a) (τ a) rf)) := by rw [hly]; rfl
  have he' : zcell G (ly' a) (σ' a) (τ' a) = some (.inr (c, zfs c (σ' a) (τ' a) rf')) := by rw [hly']; rfl
  have hh := zhts hts hc
  have hcl := zcl_at hc
  have hap := va_apart (own := own) hh (fun w h => h) (zty c) (zty_ok hc) (znm_ok hc) hK.1 hcl
  obtain ⟨hba, r, g1, cell, q1, q2, q3, q4⟩ := hR.2 a _ he
  have hr : r = (zRn c, zT c, zN c) := Option.some.inj (g1.symm.trans hcl)
  subst hr
  obtain ⟨hSl, hfc, kC, hkC, hkind⟩ := hK.1.1 c _ hcl
  obtain ⟨cf, kf, fi, f, hi, hsl⟩ := hSl k hk
  have hlay := hh _ (u_in_lay hk)
  unfold u_lay at hlay
  rw [if_neg (by rw [hfin]; decide)] at hlay
  have hst := (u_facts hfc hkC (u_lays hh (fun w h => h) hk) hi).1
  have h6 := u_store hfc hkC hkind hlay hi (zty_ok hc k hk) hn hf
  have hi2 := hi
  rw [zT_own hc hk] at hi2
  refine W.putK hx hb (f := f) ⟨hown, hts _ hw rfl, ⟨_, _, _, hi2⟩, hst⟩ (by rw [q2]; exact h6) q1 q3 (by rw [hsl]; exact k2_hasslot (q4 k hk)) rfl rfl hdg fun H' e1 e2 e3 => ?_
  rw [hsl] at e1 ⊢
  refine kk H' _ cells slots la (zR_set hR he he' e2 ⟨_, hcl, ?_⟩ e3 ho) (hS.put e2 e3 hba) h1 h2 hl
  rw [← hfs]
  exact t_OB.to (V := updV (vp_V (zfs c (σ a) (τ a) rf)) k v) ⟨_, e1, q2, q3, t_set q4 hap hk v⟩ (fun j _ => vp_updV_set (by rw [zfs_len]; exact hk) v j)
theorem zfs_set {c k : Nat} (hk : k < zN c) {x x' : Nat → Int32} {y y' : Nat → Int64} {r r' : Nat → Option Nat} {v : Value} (hv : zfv (zty c k) (x' k) (y' k) (r' k) = v) (ho : ∀ j, j ≠ k → x' j = x j ∧ y' j = y j ∧ r' j = r j) : (zfs c x y r).set k v = zfs c x' y' r' := by
  apply List.ext_getElem?
  intro j
  by_cases hj : j < zN c
  · rw [zfs_at hj]
    by_cases e : k = j
    · subst e
      rw [List.getElem?_set_self (by rw [zfs_len]; exact hk), hv]
    · obtain ⟨e1, e2, e3⟩ := ho j (fun h => e h.symm)
      rw [List.getElem?_set_ne e, zfs_at hj, e1, e2, e3]
  · rw [List.getElem?_eq_none (by rw [List.length_set, zfs_len]; omega), List.getElem?_eq_none (by rw [zfs_len]; omega)]
theorem zr_putfi (hO : zOk G X own cc nL) {index c k n a : Nat} {rf : Nat → Option Nat} (hc : c < 8) (hk : k < zN c) (hw : (Cond.fieldLink own index (zRn c) (zT c k).2.1 (zT c k).2.2.1) ∈ lw_tbl) (hly : ly a = (c + 5, n, rf)) (hfin : (zT c k).2.2.2 = false) (hty : zty c k = .int) {v : Int32} (hdg : decode cc pc = .ok (.putfield index, 3)) (kk : zV G X nL bc bs S ly τ (zup σ a k v) (pc + 3) ls st) : zV G X nL bc bs S ly τ σ pc ls (.int v :: .ref a :: st) := by
  refine zr_putf hO hc hk hw hly hfin (by rw [hty]; rfl) (by rw [hty]; rfl) hly (zfs_set hk (by rw [hty]; simp [zup, zfv]) (fun j hj => ⟨?_, rfl, rfl⟩)) (fun x hx => ⟨rfl, zup_ne σ k v hx, rfl⟩) hdg kk
  simp [zup, hj]
theorem zr_putfl (hO : zOk G X own cc nL) {index c k n a : Nat} {rf : Nat → Option Nat} (hc : c < 8) (hk : k < zN c) (hw : (Cond.fieldLink own index (zRn c) (zT c k).2.1 (zT c k).2.2.1) ∈ lw_tbl) (hly : ly a = (c + 5, n, rf)) (hfin : (zT c k).2.2.2 = false) (hty : zty c k = .long) {v : Int64} (hdg : decode cc pc = .ok (.putfield index, 3)) (kk : zV G X nL bc bs S ly (zupL τ a k v) σ (pc + 3) ls st) : zV G X nL bc bs S ly τ σ pc ls (.long v :: .ref a :: st) := by
  refine zr_putf hO hc hk hw hly hfin (by rw [hty]; rfl) (by rw [hty]; rfl) hly (zfs_set hk (by rw [hty]; simp [zupL, zfv]) (fun j hj => ⟨rfl, ?_, rfl⟩)) (fun x hx => ⟨rfl, rfl, zupL_ne τ k v hx⟩) hdg kk
  simp [zupL, hj]
/-- a final field, in its constructor -/
theorem zr_putfF (hO : zOk G X own cc nL) (hin : match X with | (p, l, e, R, s, m, args, below, meth, c, Q) => meth.name = "<init>") {index c k n a r : Nat} {rf : Nat → Option Nat} (hc : c < 8) (hk : k < zN c) (hwo : own = zRn c) (hw : (Cond.fieldLink own index (zRn c) (zT c k).2.1 (zT c k).2.2.1) ∈ lw_tbl) (hly : ly a = (c + 5, n, rf)) (hfin : (zT c k).2.2.2 = true) (hty : zisr (zty c k) = true) (hd : narrow (zty c k) (.ref r) = .ref r ∧ fits (zty c k) (.ref r) = true) (hdg : decode cc pc = .ok (.putfield index, 3)) (kk : zV G X nL bc bs S (zlk ly a (c + 5, n, zrf rf k (some r))) τ σ (pc + 3) ls st) : zV G X nL bc bs S ly τ σ pc ls (.ref r :: .ref a :: st) := by
  obtain ⟨p, l, e, R, s, m, args, below, meth, c0, Q⟩ := X
  obtain ⟨hx, hb, hml, hown, hts, hlk, hK, htr⟩ := hO
  intro H locs cells slots la hR hS h1 h2 hl
  have he : zcell G (ly a) (σ a) (τ a) = some (.inr (c, zfs c (σ a) (τ a) rf)) := by rw [hly]; rfl
  have he' : zcell G (zlk ly a (c + 5, n, zrf rf k (some r)) a) (σ a) (τ a) = some (.inr (c, zfs c (σ a) (τ a) (zrf rf k (some r)))) := by rw [zlk_eq]; rfl
  have hh := zhts hts hc
  have hcl := zcl_at hc
  have hap := va_apart (own := own) hh (fun w h => h) (zty c) (zty_ok hc) (znm_ok hc) hK.1 hcl
  obtain ⟨hba, r9, g1, cell, q1, q2, q3, q4⟩ := hR.2 a _ he
  have hr : r9 = (zRn c, zT c, zN c) := Option.some.inj (g1.symm.trans hcl)
  subst hr
  obtain ⟨hSl, hfc, kC, hkC, hkind⟩ := hK.1.1 c _ hcl
  obtain ⟨cf, kf, fi, f, hi, hsl⟩ := hSl k hk
  have hlay := hh _ (u_in_lay hk)
  unfold u_lay at hlay
  rw [if_pos hfin] at hlay
  have hst := (u_facts hfc hkC (u_lays hh (fun w h => h) hk) hi).1
  have hcf : m.cls = cf := by
    obtain ⟨_, _, c', _, _, _, -, -, hf', -, -, -, hown2, -⟩ := Cond.laysFinal_spec hlay
    have e1 : c' = cf := by have := hi.symm.trans hf'; simp at this; exact this.1.symm
    rw [zT_own hc hk, ← hwo] at hown2
    rw [← e1]; exact Option.some.inj (hown.symm.trans hown2)
  have h6 := u_fits hfc hkC hkind (Or.inr hlay) hi (zty_ok hc k hk) hd.1 hd.2
  have hi2 := hi
  rw [zT_own hc hk] at hi2
  refine W.putFinK hx hb hown (hts _ hw rfl) hi2 hst hcf hin (by rw [q2]; exact h6) q1 q3 (by rw [hsl]; exact k2_hasslot (q4 k hk)) rfl rfl hdg fun H' e1 e2 e3 => ?_
  rw [hsl] at e1 ⊢
  refine kk H' _ cells slots la (zR_set hR he he' e2 ⟨_, hcl, ?_⟩ e3 (fun x hx => ⟨zlk_ne ly _ hx, rfl, rfl⟩)) (hS.put e2 e3 hba) h1 h2 hl
  rw [← zfs_set (x := σ a) (y := τ a) (r := rf) hk (v := .ref r) (by rw [zfv_r hty]; simp [zrf, va_rf]) (fun j hj => ⟨rfl, rfl, by simp [zrf, hj]⟩)]
  exact t_OB.to (V := updV (vp_V (zfs c (σ a) (τ a) rf)) k (.ref r)) ⟨_, e1, q2, q3, t_set q4 hap hk _⟩ (fun j _ => vp_updV_set (by rw [zfs_len]; exact hk) _ j)
/-- a final int, in its constructor -/
theorem zr_putfFi (hO : zOk G X own cc nL) (hin : match X with | (p, l, e, R, s, m, args, below, meth, c, Q) => meth.name = "<init>") {index c k n a : Nat} {v : Int32} {rf : Nat → Option Nat} (hc : c < 8) (hk : k < zN c) (hwo : own = zRn c) (hw : (Cond.fieldLink own index (zRn c) (zT c k).2.1 (zT c k).2.2.1) ∈ lw_tbl) (hly : ly a = (c + 5, n, rf)) (hfin : (zT c k).2.2.2 = true) (hty : zty c k = .int) (hdg : decode cc pc = .ok (.putfield index, 3)) (kk : zV G X nL bc bs S ly τ (zup σ a k v) (pc + 3) ls st) : zV G X nL bc bs S ly τ σ pc ls (.int v :: .ref a :: st) := by
  obtain ⟨p, l, e, R, s, m, args, below, meth, c0, Q⟩ := X
  obtain ⟨hx, hb, hml, hown, hts, hlk, hK, htr⟩ := hO
  intro H locs cells slots la hR hS h1 h2 hl
  have he : zcell G (ly a) (σ a) (τ a) = some (.inr (c, zfs c (σ a) (τ a) rf)) := by rw [hly]; rfl
  have he' : zcell G (ly a) (zup σ a k v a) (τ a) = some (.inr (c, zfs c (zup σ a k v a) (τ a) rf)) := by rw [hly]; rfl
  have hh := zhts hts hc
  have hcl := zcl_at hc
  have hap := va_apart (own := own) hh (fun w h => h) (zty c) (zty_ok hc) (znm_ok hc) hK.1 hcl
  obtain ⟨hba, r9, g1, cell, q1, q2, q3, q4⟩ := hR.2 a _ he
  have hr : r9 = (zRn c, zT c, zN c) := Option.some.inj (g1.symm.trans hcl)
  subst hr
  obtain ⟨hSl, hfc, kC, hkC, hkind⟩ := hK.1.1 c _ hcl
  obtain ⟨cf, kf, fi, f, hi, hsl⟩ := hSl k hk
  have hlay := hh _ (u_in_lay hk)
  unfold u_lay at hlay
  rw [if_pos hfin] at hlay
  have hst := (u_facts hfc hkC (u_lays hh (fun w h => h) hk) hi).1
  have hcf : m.cls = cf := by
    obtain ⟨_, _, c', _, _, _, -, -, hf', -, -, -, hown2, -⟩ := Cond.laysFinal_spec hlay
    have e1 : c' = cf := by have := hi.symm.trans hf'; simp at this; exact this.1.symm
    rw [zT_own hc hk, ← hwo] at hown2
    rw [← e1]; exact Option.some.inj (hown.symm.trans hown2)
  have h6 := u_fits hfc hkC hkind (Or.inr hlay) hi (zty_ok hc k hk) (v := .int v) (by rw [hty]; rfl) (by rw [hty]; rfl)
  have hi2 := hi
  rw [zT_own hc hk] at hi2
  refine W.putFinK hx hb hown (hts _ hw rfl) hi2 hst hcf hin (by rw [q2]; exact h6) q1 q3 (by rw [hsl]; exact k2_hasslot (q4 k hk)) rfl rfl hdg fun H' e1 e2 e3 => ?_
  rw [hsl] at e1 ⊢
  refine kk H' _ cells slots la (zR_set hR he he' e2 ⟨_, hcl, ?_⟩ e3 (fun x hx => ⟨rfl, zup_ne σ k v hx, rfl⟩)) (hS.put e2 e3 hba) h1 h2 hl
  rw [← zfs_set (x := σ a) (y := τ a) (r := rf) hk (v := .int v) (by rw [hty]; simp [zup, zfv]) (fun j hj => ⟨by simp [zup, hj], rfl, rfl⟩)]
  exact t_OB.to (V := updV (vp_V (zfs c (σ a) (τ a) rf)) k (.int v)) ⟨_, e1, q2, q3, t_set q4 hap hk _⟩ (fun j _ => vp_updV_set (by rw [zfs_len]; exact hk) _ j)
theorem zr_iald (hO : zOk G X own cc nL) {a n : Nat} {rf : Nat → Option Nat} (hly : ly a = (1, n, rf)) {i : Int32} (hin : vp_in i n) (hdg : decode cc pc = .ok (.iaload, 1)) (kk : zV G X nL bc bs S ly τ σ (pc + 1) ls (.int (σ a (ix i)) :: st)) : zV G X nL bc bs S ly τ σ pc ls (.int i :: .ref a :: st) := by
  obtain ⟨p, l, e, R, s, m, args, below, meth, c0, Q⟩ := X
  obtain ⟨hx, hb, hml, hown, hts, hlk, hK, htr⟩ := hO
  intro H locs cells slots la hR hS h1 h2 hl
  have he : zcell G (ly a) (σ a) (τ a) = some (.inl (G.2.1.1, n, .inl (σ a))) := by rw [hly]; rfl
  exact va_iald hx hb hK.1 (zP1 (hR.2 a _ he).2) 0 0 rfl rfl hin hdg (kk H locs cells slots la hR hS h1 h2 hl)
theorem zr_iast (hO : zOk G X own cc nL) {a n : Nat} {rf : Nat → Option Nat} (hly : ly a = (1, n, rf)) {i v : Int32} (hin : vp_in i n) (hdg : decode cc pc = .ok (.iastore, 1)) (kk : zV G X nL bc bs S ly τ (zup σ a (ix i) v) (pc + 1) ls st) : zV G X nL bc bs S ly τ σ pc ls (.int v :: .int i :: .ref a :: st) := by
  obtain ⟨p, l, e, R, s, m, args, below, meth, c0, Q⟩ := X
  obtain ⟨hx, hb, hml, hown, hts, hlk, hK, htr⟩ := hO
  intro H locs cells slots la hR hS h1 h2 hl
  have he : zcell G (ly a) (σ a) (τ a) = some (.inl (G.2.1.1, n, .inl (σ a))) := by rw [hly]; rfl
  have he' : zcell G (ly a) (zup σ a (ix i) v a) (τ a) = some (.inl (G.2.1.1, n, .inl (upd (σ a) (ix i) v))) := by rw [hly, zup_eq]; rfl
  have hba := (hR.2 a _ he).1
  have hat : H[a]? = some (vp_cell G.2.1.1 (n, .inl (σ a))) := (hR.2 a _ he).2
  refine W.iast hx hb hat ((hK.1.2 0 _ rfl).1 n (fun j => .int (σ a j))) (fun q => by cases q) (by show ¬ (i < 0 ∨ (arrV _ _ _).slots.size ≤ _); rw [arrV_size]; exact hin) rfl rfl hdg fun H1 e z oq => ?_
  refine kk H1 _ cells slots la (zR_set hR he he' z ?_ oq (fun x hx => ⟨rfl, zup_ne σ _ v hx, rfl⟩)) (hS.put z oq hba) h1 h2 hl
  show H1[a]? = some (vp_cell _ _)
  rw [e, vp_cell_i, vp_cell_i, arrV_store]
  congr 2
  funext q
  by_cases hq : q = i.toNatClampNeg
  · subst hq
    simp [updV, upd]
  · simp [updV, upd, hq]
theorem zr_alen (hO : zOk G X own cc nL) {a n : Nat} {rf : Nat → Option Nat} (hly : ly a = (1, n, rf)) {v : Int32} (hv : Int32.ofNat n = v) (hdg : decode cc pc = .ok (.arraylength, 1)) (kk : zV G X nL bc bs S ly τ σ (pc + 1) ls (.int v :: st)) : zV G X nL bc bs S ly τ σ pc ls (.ref a :: st) := by
  obtain ⟨p, l, e, R, s, m, args, below, meth, c0, Q⟩ := X
  obtain ⟨hx, hb, hml, hown, hts, hlk, hK, htr⟩ := hO
  intro H locs cells slots la hR hS h1 h2 hl
  have he : zcell G (ly a) (σ a) (τ a) = some (.inl (G.2.1.1, n, .inl (σ a))) := by rw [hly]; rfl
  exact va_alen hx hb hK.1 (zP1 (hR.2 a _ he).2) 0 0 rfl rfl hv hdg (kk H locs cells slots la hR hS h1 h2 hl)
theorem zr_alenT (hO : zOk G X own cc nL) {a n : Nat} {rf : Nat → Option Nat} (hly : ly a = (4, n, rf)) {v : Int32} (hv : Int32.ofNat n = v) (hdg : decode cc pc = .ok (.arraylength, 1)) (kk : zV G X nL bc bs S ly τ σ (pc + 1) ls (.int v :: st)) : zV G X nL bc bs S ly τ σ pc ls (.ref a :: st) := by
  obtain ⟨p, l, e, R, s, m, args, below, meth, c0, Q⟩ := X
  obtain ⟨hx, hb, hml, hown, hts, hlk, hK, htr⟩ := hO
  intro H locs cells slots la hR hS h1 h2 hl
  have he : zcell G (ly a) (σ a) (τ a) = some (.inl (G.2.1.2.2.2, n, .inr (.inr (.inr (.inr rf))))) := by rw [hly]; rfl
  exact va_alen hx hb hK.1 (zP1 (hR.2 a _ he).2) 0 3 rfl rfl hv hdg (kk H locs cells slots la hR hS h1 h2 hl)
theorem zr_alenI (hO : zOk G X own cc nL) {a n : Nat} {rf : Nat → Option Nat} (hly : ly a = (3, n, rf)) {v : Int32} (hv : Int32.ofNat n = v) (hdg : decode cc pc = .ok (.arraylength, 1)) (kk : zV G X nL bc bs S ly τ σ (pc + 1) ls (.int v :: st)) : zV G X nL bc bs S ly τ σ pc ls (.ref a :: st) := by
  obtain ⟨p, l, e, R, s, m, args, below, meth, c0, Q⟩ := X
  obtain ⟨hx, hb, hml, hown, hts, hlk, hK, htr⟩ := hO
  intro H locs cells slots la hR hS h1 h2 hl
  have he : zcell G (ly a) (σ a) (τ a) = some (.inl (G.2.1.2.2.1, n, .inr (.inr (.inr (.inr rf))))) := by rw [hly]; rfl
  exact va_alen hx hb hK.1 (zP1 (hR.2 a _ he).2) 0 2 rfl rfl hv hdg (kk H locs cells slots la hR hS h1 h2 hl)
theorem zr_aaldT (hO : zOk G X own cc nL) {a n r : Nat} {rf : Nat → Option Nat} (hly : ly a = (4, n, rf)) {i : Int32} (hin : vp_in i n) (hr : rf (ix i) = some r) (hdg : decode cc pc = .ok (.aaload, 1)) (kk : zV G X nL bc bs S ly τ σ (pc + 1) ls (.ref r :: st)) : zV G X nL bc bs S ly τ σ pc ls (.int i :: .ref a :: st) := by
  obtain ⟨p, l, e, R, s, m, args, below, meth, c0, Q⟩ := X
  obtain ⟨hx, hb, hml, hown, hts, hlk, hK, htr⟩ := hO
  intro H locs cells slots la hR hS h1 h2 hl
  have he : zcell G (ly a) (σ a) (τ a) = some (.inl (G.2.1.2.2.2, n, .inr (.inr (.inr (.inr rf))))) := by rw [hly]; rfl
  refine va_aldq (C := RX4) hx hb hK.1 (zP1 (hR.2 a _ he).2) 0 3 rfl rfl hin hdg ?_
  have hr' : rf i.toNatClampNeg = some r := hr
  rw [hr']
  exact (kk H locs cells slots la hR hS h1 h2 hl)
theorem zr_aaldI (hO : zOk G X own cc nL) {a n r : Nat} {rf : Nat → Option Nat} (hly : ly a = (3, n, rf)) {i : Int32} (hin : vp_in i n) (hr : rf (ix i) = some r) (hdg : decode cc pc = .ok (.aaload, 1)) (kk : zV G X nL bc bs S ly τ σ (pc + 1) ls (.ref r :: st)) : zV G X nL bc bs S ly τ σ pc ls (.int i :: .ref a :: st) := by
  obtain ⟨p, l, e, R, s, m, args, below, meth, c0, Q⟩ := X
  obtain ⟨hx, hb, hml, hown, hts, hlk, hK, htr⟩ := hO
  intro H locs cells slots la hR hS h1 h2 hl
  have he : zcell G (ly a) (σ a) (τ a) = some (.inl (G.2.1.2.2.1, n, .inr (.inr (.inr (.inr rf))))) := by rw [hly]; rfl
  have hat : H[a]? = some (vp_cell G.2.1.2.2.1 (n, .inr (.inr (.inr (.inr rf))))) := (hR.2 a _ he).2
  have hlt : i.toNatClampNeg < n := Nat.not_le.mp fun q => hin (Or.inr q)
  have hr' : rf i.toNatClampNeg = some r := hr
  refine W.aald (v := va_rf (rf i.toNatClampNeg)) (ty := .array .int) hx hb hat ((hK.1.2 2 _ rfl).1 n (fun j => va_rf (rf j))) rfl (fun q => by cases q) (by show ¬ (i < 0 ∨ (arrV _ _ _).slots.size ≤ _); rw [arrV_size]; exact hin) (by show (arrV _ _ _).slots[_]? = _; rw [arrV_read _ _ hlt]) rfl rfl hdg ?_
  rw [hr']
  exact (kk H locs cells slots la hR hS h1 h2 hl)
/-- a Task goes into an array of Tasks -/
theorem zr_aastT (hO : zOk G X own cc nL) {a n r n' : Nat} {rf rf' : Nat → Option Nat} (hly : ly a = (4, n, rf)) (hlr : ly r = (9, n', rf')) {i : Int32} (hin : vp_in i n) (hdg : decode cc pc = .ok (.aastore, 1)) (kk : zV G X nL bc bs S (zlk ly a (4, n, zrf rf (ix i) (some r))) τ σ (pc + 1) ls st) : zV G X nL bc bs S ly τ σ pc ls (.ref r :: .int i :: .ref a :: st) := by
  obtain ⟨p, l, e, R, s, m, args, below, meth, c0, Q⟩ := X
  obtain ⟨hx, hb, hml, hown, hts, hlk, hK, htr⟩ := hO
  intro H locs cells slots la hR hS h1 h2 hl
  have he : zcell G (ly a) (σ a) (τ a) = some (.inl (G.2.1.2.2.2, n, .inr (.inr (.inr (.inr rf))))) := by rw [hly]; rfl
  have he' : zcell G (zlk ly a (4, n, zrf rf (ix i) (some r)) a) (σ a) (τ a) = some (.inl (G.2.1.2.2.2, n, .inr (.inr (.inr (.inr (zrf rf (ix i) (some r))))))) := by rw [zlk_eq]; rfl
  have hev : zcell G (ly r) (σ r) (τ r) = some (.inr (4, zfs 4 (σ r) (τ r) rf')) := by rw [hlr]; rfl
  have hba := (hR.2 a _ he).1
  have hat : H[a]? = some (vp_cell G.2.1.2.2.2 (n, .inr (.inr (.inr (.inr rf))))) := (hR.2 a _ he).2
  have hlt : i.toNatClampNeg < n := Nat.not_le.mp fun q => hin (Or.inr q)
  have h0 : ¬ i < 0 := fun q => hin (Or.inl q)
  obtain ⟨r', hr', cellV, g1, g2, g3, -⟩ := (hR.2 r _ hev).2
  have hcls := (hK.1.1 4 _ (zcl_at (by decide))).2
  obtain ⟨kA, comp, k1, k2, k3, -⟩ := (hK.1.2 3 _ rfl).2
  have hcomp : comp = G.1.1 4 := Option.some.inj (k3.symm.trans hcls.1)
  subst hcomp
  obtain ⟨kC, hkC, -⟩ := hcls.2
  refine W.aast hx hb hat (fun q h => by cases h) (fun h => by cases h) k1 k2 rfl hkC ⟨h0, by show _ < (arrV _ _ _).slots.size; rw [arrV_size]; exact hlt⟩ g1 (fun q h => by rw [g3] at h; cases h) (by rw [g2]; exact hkC) (by rw [g2]; exact va_assign hcls) rfl rfl hdg fun H1 e z oq => ?_
  refine kk H1 _ cells slots la (zR_set hR he he' z ?_ oq (fun x hx => ⟨zlk_ne ly _ hx, rfl, rfl⟩)) (hS.put z oq hba) h1 h2 hl
  show H1[a]? = some (vp_cell _ _)
  rw [e, vp_cell_q, vp_cell_q, arrV_store]
  congr 2
  funext q
  by_cases hq : q = i.toNatClampNeg
  · subst hq
    simp [updV, zrf, va_rf]
  · simp [updV, zrf, hq]
end ZR
