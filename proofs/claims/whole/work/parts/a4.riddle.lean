/-! the call riddle: what is a telling -/
def telOk (s f t v : Int32) : Bool := decide ((0 ≤ s ∧ s ≤ 5) ∧ (if s ≤ 3 then (0 ≤ f ∧ f ≤ 5) ∧ (s ≤ 2 → 0 ≤ t ∧ t ≤ 5) ∧ (if s = 0 then 0 ≤ v ∧ v ≤ 18 else if s = 1 then 0 ≤ v ∧ v ≤ 81 else if s = 2 then -9 ≤ v ∧ v ≤ 9 else 0 ≤ v ∧ v ≤ 9) else (0 ≤ f ∧ f ≤ 6) ∧ 0 ≤ v ∧ v ≤ 9))
theorem s05 {s : Int32} (h : 0 ≤ s ∧ s ≤ 5) : s = 0 ∨ s = 1 ∨ s = 2 ∨ s = 3 ∨ s = 4 ∨ s = 5 := by grind
theorem t_X12_isTelling (h : AH) (s f t v : Int32) : wp (f_X12_isTelling s f t v h) (fun r h' => r = (if telOk s f t v = true then 1 else 0) ∧ h' = h) := by
  unfold f_X12_isTelling telOk
  by_cases c : 0 ≤ s ∧ s ≤ 5
  · rcases s05 c with rfl | rfl | rfl | rfl | rfl | rfl
    all_goals
      simp (config := {decide := true}) only [↓reduceIte, ↓wp_some, ↓wp_none, wp_ite, ↓wp_cl, ↓wp_rz, ↓wp_nz, ↓wp_nzL, ↓wp_fI, ↓wp_fL, ↓wp_fR, ↓wp_pI, ↓wp_pL, ↓wp_pR, ↓wp_pZ, ↓wp_aI, ↓wp_aL, ↓wp_aR, ↓wp_bI, ↓wp_bL, ↓wp_bR, ↓wp_rO, ↓wp_cO, ↓wp_nO, ↓wp_iO, ↓wp_tbI, ↓wp_tbL, ↓wp_jn, q_okT, q_okA, q_gI, q_gL, q_gR, q_sI, q_sL, q_sR, q_SI, q_SL, q_SR, q_II, q_IL, q_IR, q_LI, q_LL, q_LR, q_RI, q_RL, q_RR, List.contains_cons, List.contains_nil, Nat.reduceBEq, Nat.reduceEqDiff, beq_self_eq_true, Bool.or_false, Bool.false_or, Bool.true_or, Bool.or_true, Bool.and_true, Bool.true_and, Bool.false_and, Bool.and_false, if_true, if_false, Bool.false_eq_true, true_and, and_true, false_and, and_false, and_self, not_true, not_false_iff, reduceCtorEq, forall_const, false_imp_iff, true_imp_iff, true_or, or_true, false_or, or_false, wp_use (t_X12_in _ _ _ _), b10, decide_eq_true_eq]
      grind
  · simp (config := {decide := true, maxSteps := 5000000}) (disch := omega) only [↓reduceIte, ↓wp_some, ↓wp_none, wp_ite, ↓wp_cl, ↓wp_rz, ↓wp_nz, ↓wp_nzL, ↓wp_fI, ↓wp_fL, ↓wp_fR, ↓wp_pI, ↓wp_pL, ↓wp_pR, ↓wp_pZ, ↓wp_aI, ↓wp_aL, ↓wp_aR, ↓wp_bI, ↓wp_bL, ↓wp_bR, ↓wp_rO, ↓wp_cO, ↓wp_nO, ↓wp_iO, ↓wp_tbI, ↓wp_tbL, ↓wp_jn, q_okT, q_okA, q_gI, q_gL, q_gR, q_sI, q_sL, q_sR, q_SI, q_SL, q_SR, q_II, q_IL, q_IR, q_LI, q_LL, q_LR, q_RI, q_RL, q_RR, List.contains_cons, List.contains_nil, Nat.reduceBEq, Nat.reduceEqDiff, beq_self_eq_true, Bool.or_false, Bool.false_or, Bool.true_or, Bool.or_true, Bool.and_true, Bool.true_and, Bool.false_and, Bool.and_false, if_true, if_false, Bool.false_eq_true, true_and, and_true, false_and, and_false, and_self, not_true, not_false_iff, reduceCtorEq, forall_const, false_imp_iff, true_imp_iff, true_or, or_true, false_or, or_false, wp_use (t_X12_in _ _ _ _), c, decide_false]
theorem t_X5_isTelling (h : AH) (s f t v : Int32) : wp (f_X5_isTelling s f t v h) (fun r h' => r = (if telOk s f t v = true then 1 else 0) ∧ h' = h) := by
  have e1 : tbLN = [0, 0, -9, 0, 0, 0] := rfl
  have e2 : tbGN = [18, 81, 9, 9, 9, 9] := rfl
  unfold f_X5_isTelling telOk
  by_cases c : 0 ≤ s ∧ s ≤ 5
  · rcases s05 c with rfl | rfl | rfl | rfl | rfl | rfl
    all_goals
      simp (config := {decide := true}) only [↓reduceIte, ↓wp_some, ↓wp_none, wp_ite, ↓wp_cl, ↓wp_rz, ↓wp_nz, ↓wp_nzL, ↓wp_fI, ↓wp_fL, ↓wp_fR, ↓wp_pI, ↓wp_pL, ↓wp_pR, ↓wp_pZ, ↓wp_aI, ↓wp_aL, ↓wp_aR, ↓wp_bI, ↓wp_bL, ↓wp_bR, ↓wp_rO, ↓wp_cO, ↓wp_nO, ↓wp_iO, ↓wp_tbI, ↓wp_tbL, ↓wp_jn, q_okT, q_okA, q_gI, q_gL, q_gR, q_sI, q_sL, q_sR, q_SI, q_SL, q_SR, q_II, q_IL, q_IR, q_LI, q_LL, q_LR, q_RI, q_RL, q_RR, List.contains_cons, List.contains_nil, Nat.reduceBEq, Nat.reduceEqDiff, beq_self_eq_true, Bool.or_false, Bool.false_or, Bool.true_or, Bool.or_true, Bool.and_true, Bool.true_and, Bool.false_and, Bool.and_false, if_true, if_false, Bool.false_eq_true, true_and, and_true, false_and, and_false, and_self, not_true, not_false_iff, reduceCtorEq, forall_const, false_imp_iff, true_imp_iff, true_or, or_true, false_or, or_false, e1, e2, List.getD_cons_zero, List.getD_cons_succ]
      simp only [show List.getD [(0 : Int32), 0, -9, 0, 0, 0] (Int32.toNatClampNeg 0) 0 = 0 by decide, show List.getD [(0 : Int32), 0, -9, 0, 0, 0] (Int32.toNatClampNeg 1) 0 = 0 by decide, show List.getD [(0 : Int32), 0, -9, 0, 0, 0] (Int32.toNatClampNeg 2) 0 = -9 by decide, show List.getD [(0 : Int32), 0, -9, 0, 0, 0] (Int32.toNatClampNeg 3) 0 = 0 by decide, show List.getD [(0 : Int32), 0, -9, 0, 0, 0] (Int32.toNatClampNeg 4) 0 = 0 by decide, show List.getD [(0 : Int32), 0, -9, 0, 0, 0] (Int32.toNatClampNeg 5) 0 = 0 by decide, show List.getD [(18 : Int32), 81, 9, 9, 9, 9] (Int32.toNatClampNeg 0) 0 = 18 by decide, show List.getD [(18 : Int32), 81, 9, 9, 9, 9] (Int32.toNatClampNeg 1) 0 = 81 by decide, show List.getD [(18 : Int32), 81, 9, 9, 9, 9] (Int32.toNatClampNeg 2) 0 = 9 by decide, show List.getD [(18 : Int32), 81, 9, 9, 9, 9] (Int32.toNatClampNeg 3) 0 = 9 by decide, show List.getD [(18 : Int32), 81, 9, 9, 9, 9] (Int32.toNatClampNeg 4) 0 = 9 by decide, show List.getD [(18 : Int32), 81, 9, 9, 9, 9] (Int32.toNatClampNeg 5) 0 = 9 by decide]
      grind
  · by_cases c1 : s < 0
    · simp (config := {decide := true, maxSteps := 5000000}) (disch := omega) only [↓reduceIte, ↓wp_some, ↓wp_none, wp_ite, ↓wp_cl, ↓wp_rz, ↓wp_nz, ↓wp_nzL, ↓wp_fI, ↓wp_fL, ↓wp_fR, ↓wp_pI, ↓wp_pL, ↓wp_pR, ↓wp_pZ, ↓wp_aI, ↓wp_aL, ↓wp_aR, ↓wp_bI, ↓wp_bL, ↓wp_bR, ↓wp_rO, ↓wp_cO, ↓wp_nO, ↓wp_iO, ↓wp_tbI, ↓wp_tbL, ↓wp_jn, q_okT, q_okA, q_gI, q_gL, q_gR, q_sI, q_sL, q_sR, q_SI, q_SL, q_SR, q_II, q_IL, q_IR, q_LI, q_LL, q_LR, q_RI, q_RL, q_RR, List.contains_cons, List.contains_nil, Nat.reduceBEq, Nat.reduceEqDiff, beq_self_eq_true, Bool.or_false, Bool.false_or, Bool.true_or, Bool.or_true, Bool.and_true, Bool.true_and, Bool.false_and, Bool.and_false, if_true, if_false, Bool.false_eq_true, true_and, and_true, false_and, and_false, and_self, not_true, not_false_iff, reduceCtorEq, forall_const, false_imp_iff, true_imp_iff, true_or, or_true, false_or, or_false, c1, c, decide_false]
    · have c2 : 5 < s := by grind
      simp (config := {decide := true, maxSteps := 5000000}) (disch := omega) only [↓reduceIte, ↓wp_some, ↓wp_none, wp_ite, ↓wp_cl, ↓wp_rz, ↓wp_nz, ↓wp_nzL, ↓wp_fI, ↓wp_fL, ↓wp_fR, ↓wp_pI, ↓wp_pL, ↓wp_pR, ↓wp_pZ, ↓wp_aI, ↓wp_aL, ↓wp_aR, ↓wp_bI, ↓wp_bL, ↓wp_bR, ↓wp_rO, ↓wp_cO, ↓wp_nO, ↓wp_iO, ↓wp_tbI, ↓wp_tbL, ↓wp_jn, q_okT, q_okA, q_gI, q_gL, q_gR, q_sI, q_sL, q_sR, q_SI, q_SL, q_SR, q_II, q_IL, q_IR, q_LI, q_LL, q_LR, q_RI, q_RL, q_RR, List.contains_cons, List.contains_nil, Nat.reduceBEq, Nat.reduceEqDiff, beq_self_eq_true, Bool.or_false, Bool.false_or, Bool.true_or, Bool.or_true, Bool.and_true, Bool.true_and, Bool.false_and, Bool.and_false, if_true, if_false, Bool.false_eq_true, true_and, and_true, false_and, and_false, and_self, not_true, not_false_iff, reduceCtorEq, forall_const, false_imp_iff, true_imp_iff, true_or, or_true, false_or, or_false, c1, c2, c, decide_false]
def b8 (x : Int32) : Int32 := x.toInt8.toInt32.toInt8.toInt32
theorem b8_in {x : Int32} (h : -9 ≤ x ∧ x ≤ 81) : b8 x = x := by
  by_cases c : 0 ≤ x
  · obtain ⟨q, hq, rfl⟩ := nI_in0 (n := 82) c (by omega) (show x < 82 by grind)
    exact nI_8b q (by omega)
  · have : x = -9 ∨ x = -8 ∨ x = -7 ∨ x = -6 ∨ x = -5 ∨ x = -4 ∨ x = -3 ∨ x = -2 ∨ x = -1 := by grind
    rcases this with rfl | rfl | rfl | rfl | rfl | rfl | rfl | rfl | rfl <;> decide
theorem tel_b8 {s f t v : Int32} (h : telOk s f t v = true) : b8 s = s ∧ b8 f = f ∧ b8 v = v ∧ (s ≤ 2 → b8 t = t) := by
  have h := of_decide_eq_true h
  have hs := h.1
  refine ⟨b8_in (by grind), b8_in ?_, b8_in ?_, fun c => b8_in ?_⟩
  · have := h.2
    split at this <;> grind
  · have := h.2
    split at this
    · have := this.2.2
      split at this
      · grind
      split at this
      · grind
      split at this <;> grind
    · grind
  · have := h.2
    rw [if_pos (by grind)] at this
    have := this.2.1 c
    grind
/-- the number at place j of the k-th five from place i on -/
def fiveE (w : AH) (s : Nat) (i : Int32) (k j : Nat) : Int32 := (hL w 105 (60 * s + (i.toNatClampNeg + 5 * k + j))).toInt32
def fiveOk (w : AH) (s : Nat) (i : Int32) (k : Nat) : Bool := decide (hI w 103 s = -2 ∧ 0 ≤ i ∧ i.toNatClampNeg + 5 * k + 5 ≤ (hI w 104 s).toNatClampNeg ∧ hL w 105 (60 * s + (i.toNatClampNeg + 5 * k + 4)) = 0) && telOk (fiveE w s i k 0) (fiveE w s i k 1) (fiveE w s i k 2) (fiveE w s i k 3)
def tel1 (u : AH) (b q : Nat) (s f t v : Int32) : AH := wI (wI (wI (wI (wI u 81 (8 * b + q) s) 82 (8 * b + q) f) 83 (8 * b + q) t) 84 (8 * b + q) v) 80 b (nI (q + 1))
def riddled (w : AH) (b s : Nat) (i : Int32) : Nat → AH
  | 0 => wI w 80 b 0
  | m + 1 => tel1 (riddled w b s i m) b m (fiveE w s i m 0) (fiveE w s i m 1) (b8 (fiveE w s i m 2)) (fiveE w s i m 3)
theorem tel1_I (u : AH) (b q : Nat) (s f t v : Int32) {a : Nat} (h : a < 80 ∨ 84 < a) : hI (tel1 u b q s f t v) a = hI u a := by
  unfold tel1
  rw [q_ne (by omega), q_ne (by omega), q_ne (by omega), q_ne (by omega), q_ne (by omega)]
theorem riddled_I (w : AH) (b s : Nat) (i : Int32) (m : Nat) {a : Nat} (h : a < 80 ∨ 84 < a) : hI (riddled w b s i m) a = hI w a := by
  induction m with
  | zero => exact q_ne (by omega)
  | succ m ih => unfold riddled; rw [tel1_I _ _ _ _ _ _ _ h]; exact ih
theorem riddled_L (w : AH) (b s : Nat) (i : Int32) (m : Nat) : hL (riddled w b s i m) = hL w := by
  induction m with
  | zero => rfl
  | succ m ih => exact ih
theorem riddled_n (w : AH) (b s : Nat) (i : Int32) (m : Nat) : hI (riddled w b s i m) 80 b = nI m := by
  cases m with
  | zero => exact q_at
  | succ m => exact q_at
def s_riddle (w : AH) (a c i k : Int32) : Int32 × AH := if isRiddle_ w a = true ∧ isShelf_ c = true ∧ 1 ≤ k ∧ k ≤ 8 then (if hI w 103 (c.toNatClampNeg) = -1 ∨ hI w 103 (c.toNatClampNeg) = -2 then (nI (runN (fiveOk w c.toNatClampNeg i) k.toNatClampNeg), riddled w a.toNatClampNeg c.toNatClampNeg i (runN (fiveOk w c.toNatClampNeg i) k.toNatClampNeg)) else (-12, w)) else (-1, w)
/-- a place of a five -/
theorem i64_5 (a k : Nat) (ha : a < 60) (hk : k < 12) : (nI a).toInt64 + ((5 : Int32) * nI k).toInt64 = (nI (a + 5 * k)).toInt64 := by
  rw [nI_m5]
  exact i64_p a (5 * k) ha (by omega)
theorem i64_5c (a k : Nat) (ha : a < 60) (hk : k < 12) : (nI a).toInt64 + (5 : Int64) * (nI k).toInt64 = (nI (a + 5 * k)).toInt64 := by
  have e : ∀ k : Nat, k < 12 → (5 : Int64) * (nI k).toInt64 = (nI (5 * k)).toInt64 := by decide +kernel
  rw [e k hk]
  exact i64_p a (5 * k) ha (by omega)
theorem i64_pj (a : Nat) (ha : a < 120) (j : Nat) (hj : j < 5) : (nI a).toInt64 + Int64.ofNat j = (nI (a + j)).toInt64 := by
  rw [nI_64 _ (by omega), nI_64 _ (by omega)]
  exact (Int64.ofNat_add a j).symm
