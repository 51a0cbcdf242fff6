theorem step_le {w : AH} (Z : WS w) {s : Nat} (hs : s < nS w) : ∃ c, c < 60 ∧ hI w 58 s = nI c ∧ (hI w 58 s).toNatClampNeg = c := by
  obtain ⟨c, hc, e⟩ := Z.1 s hs
  exact ⟨c, hc, e, by rw [e, nI_clamp (by omega)]⟩
