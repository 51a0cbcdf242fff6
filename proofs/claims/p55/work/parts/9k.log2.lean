/-! the call log: the relation -/
theorem bestOf_s (p : Nat → Bool) (bt : Nat → Nat → Bool) (n : Nat) (h : p n = false) : bestOf p bt (n + 1) = bestOf p bt n := by
  show (if p n = true then _ else _) = _
  rw [h]; rfl
