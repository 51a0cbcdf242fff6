/-! the call putAll -/
theorem WP.of {w w1 : AH} (U : WP w) (e : hI w1 49 = hI w 49) (e1 : hI w1 51 = hI w 51) (e2 : hI w1 66 = hI w 66) (e3 : hI w1 67 = hI w 67) : WP w1 := by
  unfold WP nB at *
  rw [e, e1, e2, e3]; exact U
theorem WG.of {w w1 : AH} {P : Nat → Prog} (G : WG w P) (e : hI w1 49 = hI w 49) : WG w1 P := by
  unfold WG nT at *
  rw [e]; exact G
