/-! the call paper -/
theorem WH.of {w w1 : AH} (H : WH w) (e : hI w1 49 = hI w 49) (e2 : hI w1 103 = hI w 103) (e3 : hI w1 104 = hI w 104) : WH w1 := by
  unfold WH nB at *
  rw [e, e2, e3]; exact H
