/-! rule: the reference's names, its first fault -/
def isW (w : AH) (b e : Nat) (kd : Int32) (c : Int64) : Bool := decide (kd = 1 ∧ e ≤ b + 12 ∧ codeW w b (e - b) = c)
