/-! SHELVES: reading -/
def WH (w : AH) : Prop := ∀ s, s < 6 → hI w 103 s = -1 ∨ (∃ b, b < nB w ∧ hI w 103 s = nI b) ∨ ((∃ k, k ≤ 4 ∧ hI w 103 s = -2 - nI k) ∧ ∃ z, z ≤ 60 ∧ hI w 104 s = nI z)
/-! the call taken -/
