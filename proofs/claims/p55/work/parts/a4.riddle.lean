/-! the call riddle: what is a telling -/
def telOk (s f t v : Int32) : Bool := decide ((0 ≤ s ∧ s ≤ 5) ∧ (if s ≤ 3 then (0 ≤ f ∧ f ≤ 5) ∧ (s ≤ 2 → 0 ≤ t ∧ t ≤ 5) ∧ (if s = 0 then 0 ≤ v ∧ v ≤ 18 else if s = 1 then 0 ≤ v ∧ v ≤ 81 else if s = 2 then -9 ≤ v ∧ v ≤ 9 else 0 ≤ v ∧ v ≤ 9) else (0 ≤ f ∧ f ≤ 6) ∧ 0 ≤ v ∧ v ≤ 9))
def b8 (x : Int32) : Int32 := x.toInt8.toInt32.toInt8.toInt32
