/-! A WALK: what both look for -/
/-- wishes: boxes told, worths 1 .. 99, hours 0 .. 9 -/
def WWo (w : AH) : Prop := ∀ i, i < nW w → (∃ b, b < nB w ∧ hI w 92 i = nI b ∧ boxK (hI w 51 b) = true) ∧ (∃ x, 1 ≤ x ∧ x ≤ 99 ∧ hI w 93 i = nI x) ∧ ∃ x, x ≤ 9 ∧ hI w 94 i = nI x
