/-! the call riddle: the class -/
theorem WD.of {w w1 : AH} (D : WD w) (e49 : hI w1 49 = hI w 49) (e51 : hI w1 51 = hI w 51) (e : ∀ a, 80 ≤ a → a ≤ 84 → hI w1 a = hI w a) : WD w1 := by
  unfold WD nB at *
  rw [e49, e51, e 80 (by omega) (by omega), e 81 (by omega) (by omega), e 82 (by omega) (by omega), e 83 (by omega) (by omega), e 84 (by omega) (by omega)]
  exact D
theorem RB.rr {h w : AH} {ad : Nat → Nat} (B : RB h w ad) {b : Nat} (hb : b < nB w) (hk : hI w 51 b = 2 ∨ hI w 51 b = 5) : hR h (ad b) 7 = some (ad b + 4) ∧ (hS h)[ad b + 4]? = some (5, 15) ∧ (hR h (ad b + 4) 3 = some (ad b + 5) ∧ hR h (ad b + 4) 4 = some (ad b + 6) ∧ hR h (ad b + 4) 5 = some (ad b + 7) ∧ hR h (ad b + 4) 6 = some (ad b + 8) ∧ hR h (ad b + 4) 7 = some (ad b + 9) ∧ hR h (ad b + 4) 12 = some (ad b + 10)) ∧ ∀ o, 5 ≤ o → o < 10 → (hS h)[ad b + o]? = some (20, 8) := by
  have q := B.1.2.2.2 b hb
  have bb := blkR hk
  have so := q.2.2.2.2.1
  refine ⟨?_, ?_, q.2.2.2.2.2.2.2 hk, fun o h5 h10 => ?_⟩
  · rw [(q.2.2.2.2.2.2.1 (boxR hk)).2.2.2, if_pos hk]
  · rw [so 4 (by omega)]
    rcases hk with e | e <;> rw [e] <;> decide
  · rw [so o (by omega)]
    have : o = 5 ∨ o = 6 ∨ o = 7 ∨ o = 8 ∨ o = 9 := by omega
    rcases hk with e | e <;> rw [e] <;> rcases this with rfl | rfl | rfl | rfl | rfl <;> decide
