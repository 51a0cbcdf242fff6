/-! THE CLASS'S CELLS AGAINST THE WORLD -/
def Rg (h w : AH) : Prop := hI h 1 0 = hI w 49 1 ∧ (∀ c, c < 60 → hI h 2 c = hI w 50 c - 1) ∧ hI h 1 5 = hI w 49 11 ∧ hI h 4 = hI w 58
def Rm (h w : AH) : Prop := hI h 1 9 = hI w 49 13 ∧ hI h 5 = hI w 59 ∧ hI h 6 = hI w 61 ∧ hI h 7 = hI w 60
def Rl (h w : AH) : Prop := hI h 21 2 = hI w 49 17 ∧ hI h 22 = hI w 62 ∧ hI h 23 = hI w 65 ∧ hI h 25 = hI w 63 ∧ hI h 26 = hI w 64
/-- how many cells a body of a kind takes: its own, its rows', its riddle's; and their sorts -/
def blk (k : Int32) : Nat := if k = 0 ∨ k = 7 then 1 else if k = 6 then 3 else if k = 2 ∨ k = 5 then 11 else 4
def sB (k : Int32) (o : Nat) : Nat × Nat := if k = 0 then (0, 2) else if k = 7 then (2, 5) else if k = 6 then (match o with | 0 => (9, 5) | 1 => (20, 12) | _ => (23, 12)) else (match o with | 0 => (1, 19) | 1 => (20, 4) | 2 => (20, 40) | 3 => (20, 8) | 4 => (5, 15) | 10 => (20, 6) | _ => (20, 8))
def RBs (h w : AH) (ad : Nat → Nat) : Prop := 49 ≤ ad 0 ∧ ad (nB w) = (hS h).length ∧ hI h 1 3 = hI w 49 3 ∧ ∀ b, b < nB w → ad b + blk (hI w 51 b) ≤ ad (b + 1) ∧ hR h 3 b = some (ad b) ∧ hI h (ad b) 0 = nI b ∧ hI h (ad b) 1 = hI w 51 b ∧ (∀ o, o < blk (hI w 51 b) → (hS h)[ad b + o]? = some (sB (hI w 51 b) o)) ∧ (hI w 51 b = 6 → hR h (ad b) 2 = some (ad b + 1) ∧ hR h (ad b) 3 = some (ad b + 2)) ∧ (boxK (hI w 51 b) = true → hR h (ad b) 4 = some (ad b + 1) ∧ hR h (ad b) 5 = some (ad b + 2) ∧ hR h (ad b) 6 = some (ad b + 3) ∧ hR h (ad b) 7 = (if hI w 51 b = 2 ∨ hI w 51 b = 5 then some (ad b + 4) else none)) ∧ (hI w 51 b = 2 ∨ hI w 51 b = 5 → hR h (ad b + 4) 3 = some (ad b + 5) ∧ hR h (ad b + 4) 4 = some (ad b + 6) ∧ hR h (ad b + 4) 5 = some (ad b + 7) ∧ hR h (ad b + 4) 6 = some (ad b + 8) ∧ hR h (ad b + 4) 7 = some (ad b + 9) ∧ hR h (ad b + 4) 12 = some (ad b + 10))
def RBf (h w : AH) (ad : Nat → Nat) : Prop := ∀ b, b < nB w → hI w 51 b = 7 → hI h (ad b) 2 = hI w 52 b ∧ hI h (ad b) 3 = hI w 53 b ∧ hI h (ad b) 4 = hI w 54 b
def RBx (h w : AH) (ad : Nat → Nat) : Prop := ∀ b, b < nB w → boxK (hI w 51 b) = true → hI h (ad b) 2 = hI w 53 b ∧ hI h (ad b) 3 = hI w 52 b ∧ hI h (ad b) 8 = hI w 55 b ∧ hI h (ad b) 9 = cellNow_ w b ∧ hI h (ad b) 10 = hI w 56 b ∧ hI h (ad b) 11 = hI w 54 b ∧ hI h (ad b) 12 = nI (finds_ w b) ∧ hI h (ad b) 13 = nI (misses_ w b) ∧ hI h (ad b) 14 = oI (latest_ w b) ∧ hI h (ad b) 15 = (if hI w 66 b < 0 then 0 else hI w 66 b) ∧ hI h (ad b) 16 = (if hI w 66 b < 0 then 0 else 1) ∧ hI h (ad b) 17 = hI w 89 b ∧ hI h (ad b) 18 = hI w 98 b - 1
def RBr (h w : AH) (ad : Nat → Nat) : Prop := ∀ b, b < nB w → boxK (hI w 51 b) = true → (∀ i, i < 4 → nI i < hI w 56 b → hI h (ad b + 1) i = hI w 57 (4 * b + i)) ∧ (∀ i, i < 40 → nI i < hI w 66 b → hI h (ad b + 2) i = hI w 67 (40 * b + i)) ∧ ∀ i, i < 8 → nI i < hI w 89 b → hI h (ad b + 3) i = hI w 90 (8 * b + i)
def RBt (h w : AH) (ad : Nat → Nat) : Prop := ∀ b, b < nB w → hI w 51 b = 6 → hI h (ad b) 4 = hI w 86 b ∧ ∀ i, i < 12 → nI i < hI w 86 b → hI h (ad b + 1) i = hI w 87 (12 * b + i) ∧ hI h (ad b + 2) i = hI w 88 (12 * b + i)
def RB (h w : AH) (ad : Nat → Nat) : Prop := RBs h w ad ∧ RBf h w ad ∧ RBx h w ad ∧ RBr h w ad ∧ RBt h w ad
theorem blk_pos (k : Int32) : 1 ≤ blk k := by
  unfold blk
  split
  · omega
  split
  · omega
  split <;> omega
theorem blk_box {k : Int32} (h : boxK k = true) : 4 ≤ blk k := by
  have := boxK_iff.mp h
  unfold blk
  rw [if_neg (by grind), if_neg (by grind)]
  split <;> omega
theorem sB_box {k : Int32} (h : boxK k = true) : sB k 0 = (1, 19) ∧ sB k 1 = (20, 4) ∧ sB k 2 = (20, 40) ∧ sB k 3 = (20, 8) := by
  have := boxK_iff.mp h
  unfold sB
  rw [if_neg (by grind), if_neg (by grind), if_neg (by grind), if_neg (by grind), if_neg (by grind), if_neg (by grind), if_neg (by grind), if_neg (by grind), if_neg (by grind), if_neg (by grind), if_neg (by grind), if_neg (by grind)]
  exact ⟨rfl, rfl, rfl, rfl⟩
theorem ad_ge {h w : AH} {ad : Nat → Nat} (B : RBs h w ad) {b : Nat} (hb : b ≤ nB w) : 49 ≤ ad b := by
  induction b with
  | zero => exact B.1
  | succ b ih =>
    obtain ⟨e, -⟩ := B.2.2.2 b (by omega)
    have := ih (by omega)
    omega
/-- blocks lie one behind the other -/
theorem ad_le {h w : AH} {ad : Nat → Nat} (B : RBs h w ad) {b c : Nat} (hbc : b < c) (hc : c ≤ nB w) : ad b + blk (hI w 51 b) ≤ ad c := by
  induction c with
  | zero => omega
  | succ c ih =>
    obtain ⟨e, -⟩ := B.2.2.2 c (by omega)
    by_cases z : b = c
    · subst z; omega
    · have := ih (by omega) (by omega); omega
theorem ad_ne {h w : AH} {ad : Nat → Nat} (B : RBs h w ad) {b c : Nat} (hb : b < nB w) (hc : c < nB w) (hne : b ≠ c) {i j : Nat} (hi : i < blk (hI w 51 b)) (hj : j < blk (hI w 51 c)) : ad b + i ≠ ad c + j := by
  rcases Nat.lt_or_gt_of_ne hne with z | z
  · have := ad_le B z (by omega); omega
  · have := ad_le B z (by omega); omega
theorem RB.s0 {h w : AH} {ad : Nat → Nat} (B : RB h w ad) {b : Nat} (hb : b < nB w) : (hS h)[ad b]? = some (sB (hI w 51 b) 0) := (B.1.2.2.2 b hb).2.2.2.2.1 0 (blk_pos _)
theorem RB.n {h w : AH} {ad : Nat → Nat} (B : RB h w ad) : hI h 1 3 = hI w 49 3 := B.1.2.2.1
theorem RB.r3 {h w : AH} {ad : Nat → Nat} (B : RB h w ad) {b : Nat} (hb : b < nB w) : hR h 3 b = some (ad b) := (B.1.2.2.2 b hb).2.1
theorem RB.x0 {h w : AH} {ad : Nat → Nat} (B : RB h w ad) {b : Nat} (hb : b < nB w) : hI h (ad b) 0 = nI b := (B.1.2.2.2 b hb).2.2.1
theorem RB.x1 {h w : AH} {ad : Nat → Nat} (B : RB h w ad) {b : Nat} (hb : b < nB w) : hI h (ad b) 1 = hI w 51 b := (B.1.2.2.2 b hb).2.2.2.1
theorem RB.f0 {h w : AH} {ad : Nat → Nat} (B : RB h w ad) {b : Nat} (hb : b < nB w) (hk : hI w 51 b = 7) : (hS h)[ad b]? = some (2, 5) := by rw [B.s0 hb, hk]; decide
theorem RB.f2 {h w : AH} {ad : Nat → Nat} (B : RB h w ad) {b : Nat} (hb : b < nB w) (hk : hI w 51 b = 7) : hI h (ad b) 2 = hI w 52 b := (B.2.1 b hb hk).1
theorem RB.f3 {h w : AH} {ad : Nat → Nat} (B : RB h w ad) {b : Nat} (hb : b < nB w) (hk : hI w 51 b = 7) : hI h (ad b) 3 = hI w 53 b := (B.2.1 b hb hk).2.1
theorem RB.f4 {h w : AH} {ad : Nat → Nat} (B : RB h w ad) {b : Nat} (hb : b < nB w) (hk : hI w 51 b = 7) : hI h (ad b) 4 = hI w 54 b := (B.2.1 b hb hk).2.2
theorem RB.b0 {h w : AH} {ad : Nat → Nat} (B : RB h w ad) {b : Nat} (hb : b < nB w) (hk : boxK (hI w 51 b) = true) : (hS h)[ad b]? = some (1, 19) := by rw [B.s0 hb, (sB_box hk).1]
theorem RB.b1 {h w : AH} {ad : Nat → Nat} (B : RB h w ad) {b : Nat} (hb : b < nB w) (hk : boxK (hI w 51 b) = true) : (hS h)[ad b + 1]? = some (20, 4) := by rw [(B.1.2.2.2 b hb).2.2.2.2.1 1 (by have := blk_box hk; omega), (sB_box hk).2.1]
theorem RB.b2 {h w : AH} {ad : Nat → Nat} (B : RB h w ad) {b : Nat} (hb : b < nB w) (hk : boxK (hI w 51 b) = true) : (hS h)[ad b + 2]? = some (20, 40) := by rw [(B.1.2.2.2 b hb).2.2.2.2.1 2 (by have := blk_box hk; omega), (sB_box hk).2.2.1]
theorem RB.b3 {h w : AH} {ad : Nat → Nat} (B : RB h w ad) {b : Nat} (hb : b < nB w) (hk : boxK (hI w 51 b) = true) : (hS h)[ad b + 3]? = some (20, 8) := by rw [(B.1.2.2.2 b hb).2.2.2.2.1 3 (by have := blk_box hk; omega), (sB_box hk).2.2.2]
theorem RB.t0 {h w : AH} {ad : Nat → Nat} (B : RB h w ad) {b : Nat} (hb : b < nB w) (hk : hI w 51 b = 6) : (hS h)[ad b]? = some (9, 5) := by rw [B.s0 hb, hk]; decide
theorem RB.t1 {h w : AH} {ad : Nat → Nat} (B : RB h w ad) {b : Nat} (hb : b < nB w) (hk : hI w 51 b = 6) : (hS h)[ad b + 1]? = some (20, 12) := by rw [(B.1.2.2.2 b hb).2.2.2.2.1 1 (by rw [hk]; decide), hk]; decide
theorem RB.t2 {h w : AH} {ad : Nat → Nat} (B : RB h w ad) {b : Nat} (hb : b < nB w) (hk : hI w 51 b = 6) : (hS h)[ad b + 2]? = some (23, 12) := by rw [(B.1.2.2.2 b hb).2.2.2.2.1 2 (by rw [hk]; decide), hk]; decide
theorem RB.tr2 {h w : AH} {ad : Nat → Nat} (B : RB h w ad) {b : Nat} (hb : b < nB w) (hk : hI w 51 b = 6) : hR h (ad b) 2 = some (ad b + 1) := ((B.1.2.2.2 b hb).2.2.2.2.2.1 hk).1
theorem RB.tr3 {h w : AH} {ad : Nat → Nat} (B : RB h w ad) {b : Nat} (hb : b < nB w) (hk : hI w 51 b = 6) : hR h (ad b) 3 = some (ad b + 2) := ((B.1.2.2.2 b hb).2.2.2.2.2.1 hk).2
theorem RB.t4 {h w : AH} {ad : Nat → Nat} (B : RB h w ad) {b : Nat} (hb : b < nB w) (hk : hI w 51 b = 6) : hI h (ad b) 4 = hI w 86 b := (B.2.2.2.2 b hb hk).1
theorem RB.br4 {h w : AH} {ad : Nat → Nat} (B : RB h w ad) {b : Nat} (hb : b < nB w) (hk : boxK (hI w 51 b) = true) : hR h (ad b) 4 = some (ad b + 1) := ((B.1.2.2.2 b hb).2.2.2.2.2.2.1 hk).1
theorem RB.br5 {h w : AH} {ad : Nat → Nat} (B : RB h w ad) {b : Nat} (hb : b < nB w) (hk : boxK (hI w 51 b) = true) : hR h (ad b) 5 = some (ad b + 2) := ((B.1.2.2.2 b hb).2.2.2.2.2.2.1 hk).2.1
theorem RB.br6 {h w : AH} {ad : Nat → Nat} (B : RB h w ad) {b : Nat} (hb : b < nB w) (hk : boxK (hI w 51 b) = true) : hR h (ad b) 6 = some (ad b + 3) := ((B.1.2.2.2 b hb).2.2.2.2.2.2.1 hk).2.2.1
theorem RB.br7 {h w : AH} {ad : Nat → Nat} (B : RB h w ad) {b : Nat} (hb : b < nB w) (hk : boxK (hI w 51 b) = true) : hR h (ad b) 7 = (if hI w 51 b = 2 ∨ hI w 51 b = 5 then some (ad b + 4) else none) := ((B.1.2.2.2 b hb).2.2.2.2.2.2.1 hk).2.2.2
theorem RB.x2 {h w : AH} {ad : Nat → Nat} (B : RB h w ad) {b : Nat} (hb : b < nB w) (hk : boxK (hI w 51 b) = true) : hI h (ad b) 2 = hI w 53 b := (B.2.2.1 b hb hk).1
theorem RB.x3 {h w : AH} {ad : Nat → Nat} (B : RB h w ad) {b : Nat} (hb : b < nB w) (hk : boxK (hI w 51 b) = true) : hI h (ad b) 3 = hI w 52 b := (B.2.2.1 b hb hk).2.1
theorem RB.x8 {h w : AH} {ad : Nat → Nat} (B : RB h w ad) {b : Nat} (hb : b < nB w) (hk : boxK (hI w 51 b) = true) : hI h (ad b) 8 = hI w 55 b := (B.2.2.1 b hb hk).2.2.1
theorem RB.x9 {h w : AH} {ad : Nat → Nat} (B : RB h w ad) {b : Nat} (hb : b < nB w) (hk : boxK (hI w 51 b) = true) : hI h (ad b) 9 = cellNow_ w b := (B.2.2.1 b hb hk).2.2.2.1
theorem RB.x10 {h w : AH} {ad : Nat → Nat} (B : RB h w ad) {b : Nat} (hb : b < nB w) (hk : boxK (hI w 51 b) = true) : hI h (ad b) 10 = hI w 56 b := (B.2.2.1 b hb hk).2.2.2.2.1
theorem RB.x11 {h w : AH} {ad : Nat → Nat} (B : RB h w ad) {b : Nat} (hb : b < nB w) (hk : boxK (hI w 51 b) = true) : hI h (ad b) 11 = hI w 54 b := (B.2.2.1 b hb hk).2.2.2.2.2.1
theorem RB.x12 {h w : AH} {ad : Nat → Nat} (B : RB h w ad) {b : Nat} (hb : b < nB w) (hk : boxK (hI w 51 b) = true) : hI h (ad b) 12 = nI (finds_ w b) := (B.2.2.1 b hb hk).2.2.2.2.2.2.1
theorem RB.x13 {h w : AH} {ad : Nat → Nat} (B : RB h w ad) {b : Nat} (hb : b < nB w) (hk : boxK (hI w 51 b) = true) : hI h (ad b) 13 = nI (misses_ w b) := (B.2.2.1 b hb hk).2.2.2.2.2.2.2.1
theorem RB.x14 {h w : AH} {ad : Nat → Nat} (B : RB h w ad) {b : Nat} (hb : b < nB w) (hk : boxK (hI w 51 b) = true) : hI h (ad b) 14 = oI (latest_ w b) := (B.2.2.1 b hb hk).2.2.2.2.2.2.2.2.1
theorem RB.x15 {h w : AH} {ad : Nat → Nat} (B : RB h w ad) {b : Nat} (hb : b < nB w) (hk : boxK (hI w 51 b) = true) : hI h (ad b) 15 = (if hI w 66 b < 0 then 0 else hI w 66 b) := (B.2.2.1 b hb hk).2.2.2.2.2.2.2.2.2.1
theorem RB.x16 {h w : AH} {ad : Nat → Nat} (B : RB h w ad) {b : Nat} (hb : b < nB w) (hk : boxK (hI w 51 b) = true) : hI h (ad b) 16 = (if hI w 66 b < 0 then 0 else 1) := (B.2.2.1 b hb hk).2.2.2.2.2.2.2.2.2.2.1
theorem RB.x17 {h w : AH} {ad : Nat → Nat} (B : RB h w ad) {b : Nat} (hb : b < nB w) (hk : boxK (hI w 51 b) = true) : hI h (ad b) 17 = hI w 89 b := (B.2.2.1 b hb hk).2.2.2.2.2.2.2.2.2.2.2.1
theorem RB.x18 {h w : AH} {ad : Nat → Nat} (B : RB h w ad) {b : Nat} (hb : b < nB w) (hk : boxK (hI w 51 b) = true) : hI h (ad b) 18 = hI w 98 b - 1 := (B.2.2.1 b hb hk).2.2.2.2.2.2.2.2.2.2.2.2
theorem t_X3_boxAt {h w : AH} {ad : Nat → Nat} (l : Lay h) (n : WN w) (B : RB h w ad) (b : Int32) : wp (f_X3_boxAt (some 1) b h) (fun r h' => r = (if isBox_ w b = true then some (ad b.toNatClampNeg) else none) ∧ h' = h) := by
  have hn := n.n150
  unfold f_X3_boxAt
  simp only [↓reduceIte, ↓wp_some, ↓wp_none, wp_ite, ↓wp_cl, ↓wp_rz, ↓wp_nz, ↓wp_nzL, ↓wp_fI, ↓wp_fL, ↓wp_fR, ↓wp_pI, ↓wp_pL, ↓wp_pR, ↓wp_pZ, ↓wp_aI, ↓wp_aL, ↓wp_aR, ↓wp_bI, ↓wp_bL, ↓wp_bR, ↓wp_rO, ↓wp_cO, ↓wp_nO, ↓wp_iO, ↓wp_tbI, ↓wp_tbL, ↓wp_jn, q_okT, q_okA, q_gI, q_gL, q_gR, q_sI, q_sL, q_sR, q_SI, q_SL, q_SR, q_II, q_IL, q_IR, q_LI, q_LL, q_LR, q_RI, q_RL, q_RR, List.contains_cons, List.contains_nil, Nat.reduceBEq, Nat.reduceEqDiff, beq_self_eq_true, Bool.or_false, Bool.false_or, Bool.true_or, Bool.or_true, Bool.and_true, Bool.true_and, Bool.false_and, Bool.and_false, if_true, if_false, Bool.false_eq_true, true_and, and_true, false_and, and_false, and_self, not_true, not_false_iff, reduceCtorEq, forall_const, false_imp_iff, true_imp_iff, true_or, or_true, false_or, or_false, l.s1, l.s3, l.r1_2, B.n, n.n]
  by_cases z : isBody_ w b = true
  · obtain ⟨i, hi, rfl⟩ := isBody_ex n z
    have hs := B.s0 hi
    have hk := n.k hi
    simp (config := {maxSteps := 5000000}) (disch := omega) only [isBox_nI n hi, ↓reduceIte, ↓wp_some, ↓wp_none, wp_ite, ↓wp_cl, ↓wp_rz, ↓wp_nz, ↓wp_nzL, ↓wp_fI, ↓wp_fL, ↓wp_fR, ↓wp_pI, ↓wp_pL, ↓wp_pR, ↓wp_pZ, ↓wp_aI, ↓wp_aL, ↓wp_aR, ↓wp_bI, ↓wp_bL, ↓wp_bR, ↓wp_rO, ↓wp_cO, ↓wp_nO, ↓wp_iO, ↓wp_tbI, ↓wp_tbL, ↓wp_jn, q_okT, q_okA, q_gI, q_gL, q_gR, q_sI, q_sL, q_sR, q_SI, q_SL, q_SR, q_II, q_IL, q_IR, q_LI, q_LL, q_LR, q_RI, q_RL, q_RR, List.contains_cons, List.contains_nil, Nat.reduceBEq, Nat.reduceEqDiff, beq_self_eq_true, Bool.or_false, Bool.false_or, Bool.true_or, Bool.or_true, Bool.and_true, Bool.true_and, Bool.false_and, Bool.and_false, if_true, if_false, Bool.false_eq_true, true_and, and_true, false_and, and_false, and_self, not_true, not_false_iff, reduceCtorEq, forall_const, false_imp_iff, true_imp_iff, true_or, or_true, false_or, or_false, n1_0, m1neg, ne_eq, nle2, n24, n10, nle, b10, b11, am1, n0m1, Int32.add_zero, Int32.zero_add, ite_true, ite_false, Bool.and_eq_true, nI_m4, nI_m5, nI_m8, nI_m10, nI_m12, nI_m24, nI_m31, nI_m40, nI_m60, nI_m81, nI_m161, nI_m170, nI_p2, nI_p3, nI_p4, nI_p5, nI_p6, nI_pred, nI_leI, nI_ltI, nI_eq, nI_clamp, nI_neg, nI_ge0, nI_neg1, nI_1, nI_add, nI_mul, dle, decide_true, decide_false, Bool.not_true, Bool.not_false, decide_eq_true_eq, B.r3 hi, hs, hi]
    have he : boxK (hI w 51 i) = true → sB (hI w 51 i) 0 = (1, 19) := fun z => (sB_box z).1
    unfold sB boxK at *
    grind
  · unfold isBox_
    unfold isBody_ at *
    grind
theorem t_X3_finderAt {h w : AH} {ad : Nat → Nat} (l : Lay h) (n : WN w) (B : RB h w ad) (b : Int32) : wp (f_X3_finderAt (some 1) b h) (fun r h' => r = (if isFinder_ w b = true then some (ad b.toNatClampNeg) else none) ∧ h' = h) := by
  have hn := n.n150
  unfold f_X3_finderAt
  simp only [↓reduceIte, ↓wp_some, ↓wp_none, wp_ite, ↓wp_cl, ↓wp_rz, ↓wp_nz, ↓wp_nzL, ↓wp_fI, ↓wp_fL, ↓wp_fR, ↓wp_pI, ↓wp_pL, ↓wp_pR, ↓wp_pZ, ↓wp_aI, ↓wp_aL, ↓wp_aR, ↓wp_bI, ↓wp_bL, ↓wp_bR, ↓wp_rO, ↓wp_cO, ↓wp_nO, ↓wp_iO, ↓wp_tbI, ↓wp_tbL, ↓wp_jn, q_okT, q_okA, q_gI, q_gL, q_gR, q_sI, q_sL, q_sR, q_SI, q_SL, q_SR, q_II, q_IL, q_IR, q_LI, q_LL, q_LR, q_RI, q_RL, q_RR, List.contains_cons, List.contains_nil, Nat.reduceBEq, Nat.reduceEqDiff, beq_self_eq_true, Bool.or_false, Bool.false_or, Bool.true_or, Bool.or_true, Bool.and_true, Bool.true_and, Bool.false_and, Bool.and_false, if_true, if_false, Bool.false_eq_true, true_and, and_true, false_and, and_false, and_self, not_true, not_false_iff, reduceCtorEq, forall_const, false_imp_iff, true_imp_iff, true_or, or_true, false_or, or_false, l.s1, l.s3, l.r1_2, B.n, n.n]
  by_cases z : isBody_ w b = true
  · obtain ⟨i, hi, rfl⟩ := isBody_ex n z
    have hs := B.s0 hi
    have hk := n.k hi
    simp (config := {maxSteps := 5000000}) (disch := omega) only [isFinder_nI n hi, ↓reduceIte, ↓wp_some, ↓wp_none, wp_ite, ↓wp_cl, ↓wp_rz, ↓wp_nz, ↓wp_nzL, ↓wp_fI, ↓wp_fL, ↓wp_fR, ↓wp_pI, ↓wp_pL, ↓wp_pR, ↓wp_pZ, ↓wp_aI, ↓wp_aL, ↓wp_aR, ↓wp_bI, ↓wp_bL, ↓wp_bR, ↓wp_rO, ↓wp_cO, ↓wp_nO, ↓wp_iO, ↓wp_tbI, ↓wp_tbL, ↓wp_jn, q_okT, q_okA, q_gI, q_gL, q_gR, q_sI, q_sL, q_sR, q_SI, q_SL, q_SR, q_II, q_IL, q_IR, q_LI, q_LL, q_LR, q_RI, q_RL, q_RR, List.contains_cons, List.contains_nil, Nat.reduceBEq, Nat.reduceEqDiff, beq_self_eq_true, Bool.or_false, Bool.false_or, Bool.true_or, Bool.or_true, Bool.and_true, Bool.true_and, Bool.false_and, Bool.and_false, if_true, if_false, Bool.false_eq_true, true_and, and_true, false_and, and_false, and_self, not_true, not_false_iff, reduceCtorEq, forall_const, false_imp_iff, true_imp_iff, true_or, or_true, false_or, or_false, n1_0, m1neg, ne_eq, nle2, n24, n10, nle, b10, b11, am1, n0m1, Int32.add_zero, Int32.zero_add, ite_true, ite_false, Bool.and_eq_true, nI_m4, nI_m5, nI_m8, nI_m10, nI_m12, nI_m24, nI_m31, nI_m40, nI_m60, nI_m81, nI_m161, nI_m170, nI_p2, nI_p3, nI_p4, nI_p5, nI_p6, nI_pred, nI_leI, nI_ltI, nI_eq, nI_clamp, nI_neg, nI_ge0, nI_neg1, nI_1, nI_add, nI_mul, dle, decide_true, decide_false, Bool.not_true, Bool.not_false, decide_eq_true_eq, B.r3 hi, hs, hi]
    unfold sB at *
    grind
  · unfold isFinder_
    unfold isBody_ at *
    grind
theorem t_X3_bodyAt {h w : AH} {ad : Nat → Nat} (l : Lay h) (n : WN w) (B : RB h w ad) (b : Int32) : wp (f_X3_bodyAt (some 1) b h) (fun r h' => r = (if isBody_ w b = true then some (ad b.toNatClampNeg) else none) ∧ h' = h) := by
  have hn := n.n150
  unfold f_X3_bodyAt
  simp only [↓reduceIte, ↓wp_some, ↓wp_none, wp_ite, ↓wp_cl, ↓wp_rz, ↓wp_nz, ↓wp_nzL, ↓wp_fI, ↓wp_fL, ↓wp_fR, ↓wp_pI, ↓wp_pL, ↓wp_pR, ↓wp_pZ, ↓wp_aI, ↓wp_aL, ↓wp_aR, ↓wp_bI, ↓wp_bL, ↓wp_bR, ↓wp_rO, ↓wp_cO, ↓wp_nO, ↓wp_iO, ↓wp_tbI, ↓wp_tbL, ↓wp_jn, q_okT, q_okA, q_gI, q_gL, q_gR, q_sI, q_sL, q_sR, q_SI, q_SL, q_SR, q_II, q_IL, q_IR, q_LI, q_LL, q_LR, q_RI, q_RL, q_RR, List.contains_cons, List.contains_nil, Nat.reduceBEq, Nat.reduceEqDiff, beq_self_eq_true, Bool.or_false, Bool.false_or, Bool.true_or, Bool.or_true, Bool.and_true, Bool.true_and, Bool.false_and, Bool.and_false, if_true, if_false, Bool.false_eq_true, true_and, and_true, false_and, and_false, and_self, not_true, not_false_iff, reduceCtorEq, forall_const, false_imp_iff, true_imp_iff, true_or, or_true, false_or, or_false, l.s1, l.s3, l.r1_2, B.n, n.n]
  by_cases z : isBody_ w b = true
  · obtain ⟨i, hi, rfl⟩ := isBody_ex n z
    simp (config := {maxSteps := 5000000}) (disch := omega) only [z, ↓reduceIte, ↓wp_some, ↓wp_none, wp_ite, ↓wp_cl, ↓wp_rz, ↓wp_nz, ↓wp_nzL, ↓wp_fI, ↓wp_fL, ↓wp_fR, ↓wp_pI, ↓wp_pL, ↓wp_pR, ↓wp_pZ, ↓wp_aI, ↓wp_aL, ↓wp_aR, ↓wp_bI, ↓wp_bL, ↓wp_bR, ↓wp_rO, ↓wp_cO, ↓wp_nO, ↓wp_iO, ↓wp_tbI, ↓wp_tbL, ↓wp_jn, q_okT, q_okA, q_gI, q_gL, q_gR, q_sI, q_sL, q_sR, q_SI, q_SL, q_SR, q_II, q_IL, q_IR, q_LI, q_LL, q_LR, q_RI, q_RL, q_RR, List.contains_cons, List.contains_nil, Nat.reduceBEq, Nat.reduceEqDiff, beq_self_eq_true, Bool.or_false, Bool.false_or, Bool.true_or, Bool.or_true, Bool.and_true, Bool.true_and, Bool.false_and, Bool.and_false, if_true, if_false, Bool.false_eq_true, true_and, and_true, false_and, and_false, and_self, not_true, not_false_iff, reduceCtorEq, forall_const, false_imp_iff, true_imp_iff, true_or, or_true, false_or, or_false, n1_0, m1neg, ne_eq, nle2, n24, n10, nle, b10, b11, am1, n0m1, Int32.add_zero, Int32.zero_add, ite_true, ite_false, Bool.and_eq_true, nI_m4, nI_m5, nI_m8, nI_m10, nI_m12, nI_m24, nI_m31, nI_m40, nI_m60, nI_m81, nI_m161, nI_m170, nI_p2, nI_p3, nI_p4, nI_p5, nI_p6, nI_pred, nI_leI, nI_ltI, nI_eq, nI_clamp, nI_neg, nI_ge0, nI_neg1, nI_1, nI_add, nI_mul, dle, decide_true, decide_false, Bool.not_true, Bool.not_false, decide_eq_true_eq, B.r3 hi, hi]
  · unfold isBody_ at *
    grind
