/-! The law: one act -/
theorem zka_IS : Cond.castable "java/lang/IllegalStateException" "java/lang/IllegalStateException" ∈ lw_tbl := by decide +kernel
theorem zX_catch2 {G : zGm} {X : zCx} {own : String} {cc : ByteArray} {nL bc bs : Nat} {S : Nat → Prop} {ly : zLy} {τ : zTu} {σ : zSg} {pc : Nat} {ls : List (Option Value)} {st : List Value} (hO : zOk G X own cc nL) {hh : List (Nat × Nat × Nat × Nat)} (hT : zTab X hh) {E name : String} (pre suf : List (Nat × Nat × Nat × Nat)) {a1 a2 a3 ct : Nat} (hsplit : hh = pre ++ (a1, a2, a3, ct) :: suf)
    (hpass : ∀ z ∈ pre, ¬ (z.1 ≤ pc ∧ pc < z.2.1)) (hin : a1 ≤ pc ∧ pc < a2) (h0 : ct ≠ 0)
    (hlink : Cond.classLink own ct name ∈ lw_tbl) (hcast : Cond.castable E name ∈ lw_tbl) (kk : ∀ q, zV G X nL bc bs S ly τ σ a3 ls [.ref q]) : zVX G X nL bc bs S ly τ σ pc ls st E := by
  obtain ⟨p, l, e, R, s, m, args, below, meth, c0, Q⟩ := X
  obtain ⟨hx, hb, hml, hown, hts, hlk, hK, htr⟩ := hO
  intro H locs cells slots la q ce hR hS h1 h2 hl hce hcv hcl
  have hT2 : c0.exceptionTable.toList = tableOf hh := hT
  refine vx_catch (name := name) hown (tableOf pre) ⟨a1, a2, a3, ct⟩ (tableOf suf) (by rw [hT2, hsplit]; unfold tableOf; rw [List.map_append]; rfl) (fun z hz => Or.inl ?_) (by simp only [covers]; simpa using hin) h0 (hts _ hlink rfl) (zokw_use (w := Cond.castable E name) rfl (hK.2.2.2.2.2.2.1 _ hcast rfl)) hce hcv hcl (kk q H locs cells slots la hR hS h1 h2 hl)
  unfold tableOf at hz
  obtain ⟨z0, hz0, rfl⟩ := List.mem_map.mp hz
  have g := hpass z0 hz0
  simp only [covers]
  simp only [Bool.and_eq_false_iff, decide_eq_false_iff_not]
  by_cases g1 : z0.1 ≤ pc
  · exact Or.inr (fun g2 => g ⟨g1, g2⟩)
  · exact Or.inl g1
theorem mul_sm : ∀ j, j < 7 → ∀ p, p < 4 → nI j * nI p = nI (j * p) := by decide
theorem sum_eq {a b a' b' c c' m : Int32} (h : c = a + b) (h' : c' = a' + b') (hm : c' = c + m) : b' - b + (a' - a) = m := by
  rw [h, h'] at hm
  have e : b' - b + (a' - a) = (a' + b') - (a + b) := by
    rw [Int32.sub_eq_add_neg, Int32.sub_eq_add_neg, Int32.sub_eq_add_neg, Int32.neg_add, Int32.add_comm (b' + -b), Int32.add_assoc a' (-a), ← Int32.add_assoc (-a) b', Int32.add_comm (-a) b', Int32.add_assoc b' (-a), ← Int32.add_assoc a' b', Int32.sub_eq_add_neg]
  rw [e, hm, Int32.add_comm, Int32.add_sub_cancel]
theorem add_back (a b : Int32) : a + (b - a) = b := by
  rw [Int32.add_comm, Int32.sub_add_cancel]
