/-! The reference, new: nothing but nought -/
theorem mF_new_0 {f : Nat} (h0 : f ≠ 0) (h1 : f ≠ 68) (h2 : f ≠ 101) : mF_new f = fun _ => 0 := by
  funext j
  unfold mF_new
  split
  · exact absurd rfl h0
  · exact absurd rfl h1
  · exact absurd rfl h2
  · rfl
