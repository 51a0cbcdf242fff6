/-! THE WORLD: the reference's own memory (cells 49 ..) as it stands between calls -/
def nB (w : AH) : Nat := (hI w 49 3).toNatClampNeg
def nM (w : AH) : Nat := (hI w 49 13).toNatClampNeg
def nL (w : AH) : Nat := (hI w 49 17).toNatClampNeg
def nT (w : AH) : Nat := (hI w 49 33).toNatClampNeg
def nS (w : AH) : Nat := (hI w 49 11).toNatClampNeg
def nW (w : AH) : Nat := (hI w 49 65).toNatClampNeg
def WN (w : AH) : Prop := (hI w 49 3 = nI (nB w) ∧ nB w ≤ 150) ∧ (hI w 49 13 = nI (nM w) ∧ nM w ≤ 200) ∧ (hI w 49 17 = nI (nL w) ∧ nL w ≤ 300) ∧ (hI w 49 33 = nI (nT w) ∧ nT w ≤ 20) ∧ (hI w 49 11 = nI (nS w) ∧ nS w ≤ 4) ∧ (hI w 49 65 = nI (nW w) ∧ nW w ≤ 7) ∧ (0 ≤ hI w 49 1 ∧ hI w 49 1 ≤ 999) ∧ ∀ b, b < nB w → 0 ≤ hI w 51 b ∧ hI w 51 b ≤ 7
theorem WN.n {w : AH} (n : WN w) : hI w 49 3 = nI (nB w) := n.1.1
theorem WN.n150 {w : AH} (n : WN w) : nB w ≤ 150 := n.1.2
theorem WN.m {w : AH} (n : WN w) : hI w 49 13 = nI (nM w) := n.2.1.1
theorem WN.m200 {w : AH} (n : WN w) : nM w ≤ 200 := n.2.1.2
theorem WN.l {w : AH} (n : WN w) : hI w 49 17 = nI (nL w) := n.2.2.1.1
theorem WN.l300 {w : AH} (n : WN w) : nL w ≤ 300 := n.2.2.1.2
theorem WN.t {w : AH} (n : WN w) : hI w 49 33 = nI (nT w) := n.2.2.2.1.1
theorem WN.t20 {w : AH} (n : WN w) : nT w ≤ 20 := n.2.2.2.1.2
theorem WN.s {w : AH} (n : WN w) : hI w 49 11 = nI (nS w) := n.2.2.2.2.1.1
theorem WN.s4 {w : AH} (n : WN w) : nS w ≤ 4 := n.2.2.2.2.1.2
theorem WN.w {w : AH} (n : WN w) : hI w 49 65 = nI (nW w) := n.2.2.2.2.2.1.1
theorem WN.w7 {w : AH} (n : WN w) : nW w ≤ 7 := n.2.2.2.2.2.1.2
theorem WN.d {w : AH} (n : WN w) : 0 ≤ hI w 49 1 ∧ hI w 49 1 ≤ 999 := n.2.2.2.2.2.2.1
theorem WN.k {w : AH} (n : WN w) {b : Nat} (hb : b < nB w) : 0 ≤ hI w 51 b ∧ hI w 51 b ≤ 7 := n.2.2.2.2.2.2.2 b hb
def boxK (k : Int32) : Bool := decide (1 ≤ k ∧ k ≤ 5)
def cellOk (c : Int32) : Prop := 0 ≤ c ∧ c < 60
def isBody_ (w : AH) (b : Int32) : Bool := decide (0 ≤ b ∧ b < nI (nB w))
def isBox_ (w : AH) (b : Int32) : Bool := isBody_ w b && boxK (hI w 51 (b.toNatClampNeg))
def isFinder_ (w : AH) (b : Int32) : Bool := isBody_ w b && decide (hI w 51 (b.toNatClampNeg) = 7)
def isOut_ (w : AH) (b : Int32) : Bool := isBox_ w b && decide (hI w 54 (b.toNatClampNeg) < 0)
theorem isBody_ex {w : AH} (n : WN w) {b : Int32} (z : isBody_ w b = true) : ∃ i, i < nB w ∧ b = nI i := by
  unfold isBody_ at z
  have z := of_decide_eq_true z
  exact nI_in0 z.1 (by have := n.n150; omega) z.2
theorem isBody_nI {w : AH} (n : WN w) {i : Nat} (hi : i < nB w) : isBody_ w (nI i) = true := by
  have := n.n150
  unfold isBody_
  simp (config := {maxSteps := 5000000}) (disch := omega) only [n1_0, m1neg, ne_eq, nle2, n24, n10, nle, b10, b11, am1, n0m1, Int32.add_zero, Int32.zero_add, ite_true, ite_false, Bool.and_eq_true, nI_m4, nI_m5, nI_m8, nI_m10, nI_m12, nI_m24, nI_m31, nI_m40, nI_m60, nI_m81, nI_m161, nI_m170, nI_p2, nI_p3, nI_p4, nI_p5, nI_p6, nI_pred, nI_leI, nI_ltI, nI_eq, nI_clamp, nI_neg, nI_ge0, nI_neg1, nI_1, nI_add, nI_mul, dle, decide_true, decide_false, Bool.not_true, Bool.not_false, decide_eq_true_eq, and_true, true_and, hi]
theorem isBox_ex {w : AH} (n : WN w) {b : Int32} (z : isBox_ w b = true) : ∃ i, i < nB w ∧ b = nI i ∧ boxK (hI w 51 i) = true := by
  unfold isBox_ at z
  have z := Bool.and_eq_true_iff.mp z
  obtain ⟨i, hi, rfl⟩ := isBody_ex n z.1
  have := n.n150
  rw [nI_clamp (by omega)] at z
  exact ⟨i, hi, rfl, z.2⟩
theorem isFinder_ex {w : AH} (n : WN w) {b : Int32} (z : isFinder_ w b = true) : ∃ i, i < nB w ∧ b = nI i ∧ hI w 51 i = 7 := by
  unfold isFinder_ at z
  have z := Bool.and_eq_true_iff.mp z
  obtain ⟨i, hi, rfl⟩ := isBody_ex n z.1
  have := n.n150
  rw [nI_clamp (by omega)] at z
  exact ⟨i, hi, rfl, of_decide_eq_true z.2⟩
theorem isBox_nI {w : AH} (n : WN w) {i : Nat} (hi : i < nB w) : isBox_ w (nI i) = boxK (hI w 51 i) := by
  unfold isBox_
  rw [isBody_nI n hi, Bool.true_and, nI_clamp (by have := n.n150; omega)]
theorem isFinder_nI {w : AH} (n : WN w) {i : Nat} (hi : i < nB w) : isFinder_ w (nI i) = decide (hI w 51 i = 7) := by
  unfold isFinder_
  rw [isBody_nI n hi, Bool.true_and, nI_clamp (by have := n.n150; omega)]
theorem isOut_nI {w : AH} (n : WN w) {i : Nat} (hi : i < nB w) : isOut_ w (nI i) = (boxK (hI w 51 i) && decide (hI w 54 i < 0)) := by
  unfold isOut_
  rw [isBox_nI n hi, nI_clamp (by have := n.n150; omega)]
theorem boxK_iff {k : Int32} : boxK k = true ↔ 1 ≤ k ∧ k ≤ 5 := by unfold boxK; exact decide_eq_true_iff
/-! what is so of bodies, moves, logs, papers, askers, things -/
def WB (w : AH) : Prop := ∀ b, b < nB w → boxK (hI w 51 b) = true → (∃ f, f < nB w ∧ hI w 55 b = nI f ∧ hI w 51 f = 7) ∧ cellOk (hI w 52 b) ∧ (hI w 51 b = 3 → ∃ s, 1 ≤ s ∧ s ≤ 4 ∧ hI w 56 b = nI s ∧ ∀ i, i < s → cellOk (hI w 57 (4 * b + i))) ∧ (hI w 51 b ≠ 3 → hI w 56 b = 0)
def WM (w : AH) : Prop := ∀ m, m < nM w → (∃ b, b < nB w ∧ hI w 59 m = nI b ∧ hI w 51 b = 4) ∧ cellOk (hI w 60 m)
def WL (w : AH) : Prop := ∀ l, l < nL w → (∃ f, f < nB w ∧ hI w 62 l = nI f ∧ hI w 51 f = 7) ∧ (∃ b, b < nB w ∧ hI w 63 l = nI b ∧ boxK (hI w 51 b) = true) ∧ (hI w 65 l = 0 ∨ hI w 65 l = 1) ∧ 0 ≤ hI w 64 l ∧ hI w 64 l ≤ 23999
def WP (w : AH) : Prop := ∀ b, b < nB w → boxK (hI w 51 b) = true → hI w 66 b = -1 ∨ ∃ p, p ≤ 40 ∧ hI w 66 b = nI p ∧ ∀ i, i < p → ∃ f, f < nB w ∧ hI w 67 (40 * b + i) = nI f
def WA (w : AH) : Prop := ∀ b, b < nB w → boxK (hI w 51 b) = true → ∃ a, a ≤ 8 ∧ hI w 89 b = nI a ∧ ∀ i, i < a → ∃ f, f < nB w ∧ hI w 90 (8 * b + i) = nI f ∧ hI w 51 f = 7
def WT (w : AH) : Prop := ∀ b, b < nB w → hI w 51 b = 6 → ∃ t, t ≤ 12 ∧ hI w 86 b = nI t ∧ ∀ i, i < t → (∃ l, l < nL w ∧ hI w 87 (12 * b + i) = nI l) ∧ (hI w 88 (12 * b + i) = 0 ∨ hI w 88 (12 * b + i) = 1)
/-! what is read off the world -/
def far_ (a b : Int32) : Int32 := (if 0 ≤ a / 10 - b / 10 then a / 10 - b / 10 else 0 - (a / 10 - b / 10)) + (if 0 ≤ (a - a / 10 * 10) - (b - b / 10 * 10) then (a - a / 10 * 10) - (b - b / 10 * 10) else 0 - ((a - a / 10 * 10) - (b - b / 10 * 10)))
def cellNow_ (w : AH) (i : Nat) : Int32 := lastOf (fun m => decide (hI w 59 m = nI i)) (fun m => hI w 60 m) (hI w 52 i) (nM w)
def liesNow_ (w : AH) (i : Nat) : Int32 := if hI w 51 i = 3 then hI w 57 (4 * i + (hI w 56 i).toNatClampNeg - 1) else cellNow_ w i
def own_ (w : AH) (f : Int32) : Nat := cnt (fun b => isOut_ w (nI b) && decide (hI w 55 b = f)) (nB w)
def behind_ (w : AH) (a b : Nat) : Bool := decide (if hI w 64 a = hI w 64 b then b < a else hI w 64 b < hI w 64 a)
def isFound_ (w : AH) (i l : Nat) : Bool := decide (hI w 63 l = nI i ∧ hI w 65 l ≠ 0)
def finds_ (w : AH) (i : Nat) : Nat := cnt (isFound_ w i) (nL w)
def latest_ (w : AH) (i : Nat) : Option Nat := bestOf (isFound_ w i) (behind_ w) (nL w)
def isMiss_ (w : AH) (i : Nat) (o : Option Nat) (l : Nat) : Bool := decide (hI w 63 l = nI i ∧ hI w 65 l = 0) && (match o with | none => true | some j => behind_ w l j)
def misses_ (w : AH) (i : Nat) : Nat := cnt (isMiss_ w i (latest_ w i)) (nL w)
def onPaper_ (w : AH) (f : Int32) (i : Nat) : Bool := anyN (fun k => decide (hI w 67 (40 * i + k) = f)) (hI w 66 i).toNatClampNeg
