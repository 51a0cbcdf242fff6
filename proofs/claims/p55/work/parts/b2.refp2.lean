/-! rule: the reference's methods, one by one -/
section
variable {h0 w : AH} {m : Nat}
theorem RsT.f (F : WF1 w) {hh : AH} {r : Nat} {z : Int} {s : Prs} (C : RsT w h0 hh m r z s) : (∃ p, s = .error p ∧ 0 ≤ hI hh 49 30 ∧ ¬ hI hh 49 30 < 0) ∨ (∃ i c, s = .ok (i, c) ∧ hI hh 49 30 = -1) := by
  have lt := (lenT_eq F).1
  cases s with
  | error p =>
    obtain ⟨Q, hp, e30, L, e32, hL⟩ := C
    have := (pos_le (w := w) p).2
    exact Or.inl ⟨p, rfl, by rw [e30]; exact nI_pos' (by omega), by rw [e30]; exact nI_pos (by omega)⟩
  | ok x =>
    obtain ⟨i, c⟩ := x
    exact Or.inr ⟨i, c, rfl, C.2.2.2.1⟩
end
