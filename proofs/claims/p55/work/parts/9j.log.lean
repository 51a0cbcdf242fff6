/-! the call log: counting anew -/
theorem AHext {h g : AH} (e1 : h.1 = g.1) (e2 : ∀ b j, hI h b j = hI g b j) (e3 : h.2.2 = g.2.2) : h = g := Prod.ext e1 (Prod.ext (funext fun b => funext fun j => e2 b j) e3)
