theorem WN.of {w w1 : AH} (n : WN w) (e : hI w1 49 = hI w 49) (e2 : hI w1 51 = hI w 51) : WN w1 := by
  unfold WN nB nM nL nT nS nW at *
  rw [e, e2]; exact n
