/-! THE REFERENCE'S FACTS -/
theorem k11 {k : Nat} (h : k ≤ 10) : k = 0 ∨ k = 1 ∨ k = 2 ∨ k = 3 ∨ k = 4 ∨ k = 5 ∨ k = 6 ∨ k = 7 ∨ k = 8 ∨ k = 9 ∨ k = 10 := by omega
/-! what the uses give -/
def hideG (w : AH) (P : Nat → Prog) (i : Nat) (kind cell : Int32) : Int32 × Int32 := ans_ w P 1 (hI w 49 1) (fx w (hI w 49 1) (some i) none kind cell 0) 1
def nearG (w : AH) (P : Nat → Prog) : Int32 × Int32 := (clamp_ (ans_ w P 0 (hI w 49 1) (fx w (hI w 49 1) none none 0 (-1) 0) 2).1, (ans_ w P 0 (hI w 49 1) (fx w (hI w 49 1) none none 0 (-1) 0) 2).2)
def leaveG (w : AH) (P : Nat → Prog) (o : Int32) (i : Nat) (kind cell : Int32) : Int32 × Int32 := ans_ w P (10 + o) (hI w 49 1) (fx w (hI w 49 1) (some i) none kind cell 0) 0
def mayG (w : AH) (P : Nat → Prog) (i : Nat) (k : Int32) (c : Nat) : Bool := decide (hI w 50 c - 1 < 0) || decide ((leaveG w P (hI w 50 c - 1) i k (nI c)).1 ≠ 0)
