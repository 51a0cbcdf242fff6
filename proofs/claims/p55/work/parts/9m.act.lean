/-! the call act: what runs, and the reference's way -/
theorem wp_go {α : Type} {o : Option (α × AH)} {v : α} {g : AH} {Q : α → AH → Prop} (e : wp o (fun r h' => r = v ∧ h' = g)) : wp o Q ↔ Q v g := by
  constructor
  · intro q
    obtain ⟨x, e1, e2, e3⟩ := e
    obtain ⟨y, f1, f2⟩ := q
    rw [e1] at f1
    cases f1
    rw [← e2, ← e3]; exact f2
  · intro q
    exact wp_mono e (fun r h' ⟨e1, e2⟩ => by rw [e1, e2]; exact q)
