/-! the call riddle: the class's cells of it -/
theorem blkR {k : Int32} (h : k = 2 ∨ k = 5) : blk k = 11 := by rcases h with e | e <;> rw [e] <;> decide
theorem boxR {k : Int32} (h : k = 2 ∨ k = 5) : boxK k = true := by rcases h with e | e <;> rw [e] <;> decide
def WD (w : AH) : Prop := ∀ b, b < nB w → (hI w 51 b = 2 ∨ hI w 51 b = 5) → ∃ m, m ≤ 8 ∧ hI w 80 b = nI m ∧ ∀ k, k < m → telOk (hI w 81 (8 * b + k)) (hI w 82 (8 * b + k)) (hI w 83 (8 * b + k)) (hI w 84 (8 * b + k)) = true
