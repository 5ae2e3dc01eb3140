theorem stUp_s (st : Nat → Bool) (i : Nat) : stUp st i i = true := by unfold stUp; rw [if_pos rfl]
theorem stUp_k {st : Nat → Bool} {i j : Nat} (h : st j = true) : stUp st i j = true := by
  unfold stUp
  split
  · rfl
  · exact h
