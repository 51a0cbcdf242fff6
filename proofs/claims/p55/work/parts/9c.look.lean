/-! the call lookAt -/
def WK (w : AH) : Prop := ∀ b, (hI w 98 b = 0 ∨ hI w 98 b = 1 ∨ hI w 98 b = 2) ∧ (¬ (b < nB w ∧ boxK (hI w 51 b) = true) → hI w 98 b = 0)
