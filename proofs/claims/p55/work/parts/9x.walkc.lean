/-! A WALK: the class's search -/
theorem wp_cpI {α : Type} {h : AH} {a b i j n p q : Nat} (ea : (hS h)[a]? = some (20, p)) (eb : (hS h)[b]? = some (20, q)) (h1 : i + n ≤ p) (h2 : j + n ≤ q) (hp : p < 2 ^ 31) (hq : q < 2 ^ 31) (K : AH → Option (α × AH)) (Q : α → AH → Prop) : wp (cpI h (some a) (nI i) (some b) (nI j) (nI n) K) Q = wp (K (rwI h b (va_cpy (hI h a) (hI h b) i j n))) Q := by
  have c1 : (nI i).toNatClampNeg = i := nI_clamp (by omega)
  have c2 : (nI j).toNatClampNeg = j := nI_clamp (by omega)
  have c3 : (nI n).toNatClampNeg = n := nI_clamp (by omega)
  have d1 : ¬ nI i < 0 := Int32.not_lt.mpr (nI_pos' (by omega))
  have d2 : ¬ nI j < 0 := Int32.not_lt.mpr (nI_pos' (by omega))
  have d3 : ¬ nI n < 0 := Int32.not_lt.mpr (nI_pos' (by omega))
  have ok : cpOk h 20 (some a) (nI i) (some b) (nI j) (nI n) = true := by
    unfold cpOk
    simp only [ea, eb, c1, c2, c3, d1, d2, d3]
    simp [h1, h2]
  unfold cpI
  rw [if_pos ok, c1, c2, c3]
  rfl
theorem q_IrI (h : AH) (a : Nat) (g : Nat → Int32) (b k : Nat) : hI (rwI h a g) b k = if b = a then g k else hI h b k := by
  show uR h.2.1 a g b k = _
  unfold uR
  by_cases z : b = a
  · rw [if_pos z, if_pos z]
  · rw [if_neg z, if_neg z]; rfl
