/-! in how many ways k are chosen of n -/
def chs : Nat → Nat → Nat
  | _, 0 => 1
  | 0, _ + 1 => 0
  | n + 1, k + 1 => chs n k + chs n (k + 1)
theorem chs_0 (n : Nat) : chs n 0 = 1 := by cases n <;> rfl
theorem chs_s (n k : Nat) : chs (n + 1) (k + 1) = chs n k + chs n (k + 1) := rfl
theorem chs_gt {n : Nat} : ∀ {k : Nat}, n < k → chs n k = 0 := by
  induction n with
  | zero => intro k h; cases k with
    | zero => omega
    | succ k => rfl
  | succ n ih => intro k h; cases k with
    | zero => omega
    | succ k => rw [chs_s, ih (by omega), ih (by omega)]
theorem chs_self (n : Nat) : chs n n = 1 := by
  induction n with
  | zero => rfl
  | succ n ih => rw [chs_s, ih, chs_gt (by omega)]
theorem chs_1 (n : Nat) : chs n 1 = n := by
  induction n with
  | zero => rfl
  | succ n ih => rw [chs_s, chs_0, ih]; omega
theorem chs_mul (n : Nat) : ∀ k, (n + 1) * chs n k = (k + 1) * chs (n + 1) (k + 1) := by
  induction n with
  | zero => intro k; cases k with
    | zero => rfl
    | succ k => rw [chs_gt (by omega), chs_gt (n := 0 + 1) (by omega)]; omega
  | succ n ih => intro k; cases k with
    | zero => rw [chs_0, chs_1]; omega
    | succ k =>
      have e1 := ih (k + 1)
      have e2 := ih k
      rw [chs_s (n + 1) (k + 1)]
      have e3 : chs (n + 1) (k + 1) = chs n k + chs n (k + 1) := rfl
      generalize chs (n + 1) (k + 1 + 1) = A at *
      generalize chs (n + 1) (k + 1) = B at *
      generalize chs n k = C at *
      generalize chs n (k + 1) = D at *
      subst e3
      grind
theorem chs_le (n : Nat) : ∀ k, chs n k ≤ 2 ^ n := by
  induction n with
  | zero => intro k; cases k with
    | zero => decide
    | succ k => exact Nat.zero_le _
  | succ n ih => intro k; cases k with
    | zero => rw [chs_0]; exact Nat.one_le_two_pow
    | succ k => rw [chs_s, Nat.pow_succ]; have := ih k; have := ih (k + 1); omega
theorem chs_30 {n : Nat} (h : n ≤ 30) (k : Nat) : chs n k ≤ 1073741824 := Nat.le_trans (chs_le n k) (Nat.pow_le_pow_right (by decide) h)
abbrev nL' (n : Nat) : Int64 := Int64.ofNat n
theorem nI_64 : ∀ a : Nat, a < 200 → (nI a).toInt64 = nL' a := by decide +kernel
theorem t_X11_ways (h : AH) {n k : Nat} (hn : n ≤ 30) (hk : k ≤ 30) : wp (f_X11_ways (nI n) (nI k) h) (fun r h' => r = nL' (chs n k) ∧ h' = h) := by
  unfold f_X11_ways
  have k0 : ¬ nI k < 0 := nI_pos (by omega)
  by_cases z : k ≤ n
  · simp (config := {decide := true, maxSteps := 5000000}) (disch := omega) only [↓reduceIte, ↓wp_some, ↓wp_none, wp_ite, ↓wp_cl, ↓wp_rz, ↓wp_nz, ↓wp_nzL, ↓wp_fI, ↓wp_fL, ↓wp_fR, ↓wp_pI, ↓wp_pL, ↓wp_pR, ↓wp_pZ, ↓wp_aI, ↓wp_aL, ↓wp_aR, ↓wp_bI, ↓wp_bL, ↓wp_bR, ↓wp_rO, ↓wp_cO, ↓wp_nO, ↓wp_iO, ↓wp_tbI, ↓wp_tbL, ↓wp_jn, q_okT, q_okA, q_gI, q_gL, q_gR, q_sI, q_sL, q_sR, q_SI, q_SL, q_SR, q_II, q_IL, q_IR, q_LI, q_LL, q_LR, q_RI, q_RL, q_RR, List.contains_cons, List.contains_nil, Nat.reduceBEq, Nat.reduceEqDiff, beq_self_eq_true, Bool.or_false, Bool.false_or, Bool.true_or, Bool.or_true, Bool.and_true, Bool.true_and, Bool.false_and, Bool.and_false, if_true, if_false, Bool.false_eq_true, true_and, and_true, false_and, and_false, and_self, not_true, not_false_iff, reduceCtorEq, forall_const, false_imp_iff, true_imp_iff, true_or, or_true, false_or, or_false, n1_0, m1neg, ne_eq, nle2, n24, n10, nle, b10, b11, am1, n0m1, Int32.add_zero, Int32.zero_add, ite_true, ite_false, Bool.and_eq_true, nI_m4, nI_m5, nI_m8, nI_m10, nI_m12, nI_m24, nI_m31, nI_m40, nI_m60, nI_m81, nI_m161, nI_m170, nI_p2, nI_p3, nI_p4, nI_p5, nI_p6, nI_pred, nI_leI, nI_ltI, nI_eq, nI_clamp, nI_neg, nI_ge0, nI_neg1, nI_1, nI_add, nI_mul, dle, decide_true, decide_false, Bool.not_true, Bool.not_false, decide_eq_true_eq, k0, z]
    obtain ⟨m, rfl⟩ : ∃ m, n = m + k := ⟨n - k, by omega⟩
    refine wp_g2 k (fun i x1 x2 => x2 = nI (i + 1) ∧ x1 = nL' (chs (m + i) i)) ⟨rfl, by rw [chs_0]; rfl⟩ (by omega) ?_ ?_
    · rintro K x1 x2 ⟨rfl, rfl⟩
      simp (config := {decide := true, maxSteps := 5000000}) (disch := omega) only [↓reduceIte, ↓wp_some, ↓wp_none, wp_ite, ↓wp_cl, ↓wp_rz, ↓wp_nz, ↓wp_nzL, ↓wp_fI, ↓wp_fL, ↓wp_fR, ↓wp_pI, ↓wp_pL, ↓wp_pR, ↓wp_pZ, ↓wp_aI, ↓wp_aL, ↓wp_aR, ↓wp_bI, ↓wp_bL, ↓wp_bR, ↓wp_rO, ↓wp_cO, ↓wp_nO, ↓wp_iO, ↓wp_tbI, ↓wp_tbL, ↓wp_jn, q_okT, q_okA, q_gI, q_gL, q_gR, q_sI, q_sL, q_sR, q_SI, q_SL, q_SR, q_II, q_IL, q_IR, q_LI, q_LL, q_LR, q_RI, q_RL, q_RR, List.contains_cons, List.contains_nil, Nat.reduceBEq, Nat.reduceEqDiff, beq_self_eq_true, Bool.or_false, Bool.false_or, Bool.true_or, Bool.or_true, Bool.and_true, Bool.true_and, Bool.false_and, Bool.and_false, if_true, if_false, Bool.false_eq_true, true_and, and_true, false_and, and_false, and_self, not_true, not_false_iff, reduceCtorEq, forall_const, false_imp_iff, true_imp_iff, true_or, or_true, false_or, or_false, n1_0, m1neg, ne_eq, nle2, n24, n10, nle, b10, b11, am1, n0m1, Int32.add_zero, Int32.zero_add, ite_true, ite_false, Bool.and_eq_true, nI_m4, nI_m5, nI_m8, nI_m10, nI_m12, nI_m24, nI_m31, nI_m40, nI_m60, nI_m81, nI_m161, nI_m170, nI_p2, nI_p3, nI_p4, nI_p5, nI_p6, nI_pred, nI_leI, nI_ltI, nI_eq, nI_clamp, nI_neg, nI_ge0, nI_neg1, nI_1, nI_add, nI_mul, dle, decide_true, decide_false, Bool.not_true, Bool.not_false, decide_eq_true_eq, show (k < k + 1) = True from eq_true (by omega)]
    · rintro K i x1 x2 hi ⟨rfl, rfl⟩ ih
      have ki : ¬ nI k < nI (i + 1) := by rw [nI_ltI (by omega) (by omega)]; omega
      have c := chs_30 (n := m + i) (by omega) i
      have e1 : nI (m + k) - nI k + nI (i + 1) = nI (m + i + 1) := by
        rw [nI_sub (by omega), nI_add]; congr 1; omega
      have e2 : nL' (chs (m + i) i) * (nI (m + i + 1)).toInt64 / (nI (i + 1)).toInt64 = nL' (chs (m + (i + 1)) (i + 1)) := by
        rw [nI_64 _ (by omega), nI_64 _ (by omega)]
        unfold nL'
        have b : chs (m + i) i * (m + i + 1) < 2 ^ 63 := Nat.lt_of_le_of_lt (Nat.mul_le_mul c (show m + i + 1 ≤ 31 by omega)) (by decide)
        rw [← Int64.ofNat_mul, ← Int64.ofNat_div b (by omega)]
        congr 1
        have e := chs_mul (m + i) i
        rw [Nat.mul_comm, e, Nat.mul_div_cancel_left _ (by omega)]
        rfl
      have nz : ¬ (nI (i + 1)).toInt64 = 0 := by
        have : ∀ i : Nat, i < 31 → ¬ (nI (i + 1)).toInt64 = 0 := by decide +kernel
        exact this i (by omega)
      have ih := ih (nL' (chs (m + (i + 1)) (i + 1))) (nI (i + 1 + 1)) ⟨rfl, rfl⟩
      rw [← e2, ← e1] at ih
      simp (config := {decide := true, maxSteps := 5000000}) (disch := omega) only [↓reduceIte, ↓wp_some, ↓wp_none, wp_ite, ↓wp_cl, ↓wp_rz, ↓wp_nz, ↓wp_nzL, ↓wp_fI, ↓wp_fL, ↓wp_fR, ↓wp_pI, ↓wp_pL, ↓wp_pR, ↓wp_pZ, ↓wp_aI, ↓wp_aL, ↓wp_aR, ↓wp_bI, ↓wp_bL, ↓wp_bR, ↓wp_rO, ↓wp_cO, ↓wp_nO, ↓wp_iO, ↓wp_tbI, ↓wp_tbL, ↓wp_jn, q_okT, q_okA, q_gI, q_gL, q_gR, q_sI, q_sL, q_sR, q_SI, q_SL, q_SR, q_II, q_IL, q_IR, q_LI, q_LL, q_LR, q_RI, q_RL, q_RR, List.contains_cons, List.contains_nil, Nat.reduceBEq, Nat.reduceEqDiff, beq_self_eq_true, Bool.or_false, Bool.false_or, Bool.true_or, Bool.or_true, Bool.and_true, Bool.true_and, Bool.false_and, Bool.and_false, if_true, if_false, Bool.false_eq_true, true_and, and_true, false_and, and_false, and_self, not_true, not_false_iff, reduceCtorEq, forall_const, false_imp_iff, true_imp_iff, true_or, or_true, false_or, or_false, ki, nz, ne_eq]
      rw [nI_1]
      exact ih
  · simp (config := {decide := true, maxSteps := 5000000}) (disch := omega) only [↓reduceIte, ↓wp_some, ↓wp_none, wp_ite, ↓wp_cl, ↓wp_rz, ↓wp_nz, ↓wp_nzL, ↓wp_fI, ↓wp_fL, ↓wp_fR, ↓wp_pI, ↓wp_pL, ↓wp_pR, ↓wp_pZ, ↓wp_aI, ↓wp_aL, ↓wp_aR, ↓wp_bI, ↓wp_bL, ↓wp_bR, ↓wp_rO, ↓wp_cO, ↓wp_nO, ↓wp_iO, ↓wp_tbI, ↓wp_tbL, ↓wp_jn, q_okT, q_okA, q_gI, q_gL, q_gR, q_sI, q_sL, q_sR, q_SI, q_SL, q_SR, q_II, q_IL, q_IR, q_LI, q_LL, q_LR, q_RI, q_RL, q_RR, List.contains_cons, List.contains_nil, Nat.reduceBEq, Nat.reduceEqDiff, beq_self_eq_true, Bool.or_false, Bool.false_or, Bool.true_or, Bool.or_true, Bool.and_true, Bool.true_and, Bool.false_and, Bool.and_false, if_true, if_false, Bool.false_eq_true, true_and, and_true, false_and, and_false, and_self, not_true, not_false_iff, reduceCtorEq, forall_const, false_imp_iff, true_imp_iff, true_or, or_true, false_or, or_false, n1_0, m1neg, ne_eq, nle2, n24, n10, nle, b10, b11, am1, n0m1, Int32.add_zero, Int32.zero_add, ite_true, ite_false, Bool.and_eq_true, nI_m4, nI_m5, nI_m8, nI_m10, nI_m12, nI_m24, nI_m31, nI_m40, nI_m60, nI_m81, nI_m161, nI_m170, nI_p2, nI_p3, nI_p4, nI_p5, nI_p6, nI_pred, nI_leI, nI_ltI, nI_eq, nI_clamp, nI_neg, nI_ge0, nI_neg1, nI_1, nI_add, nI_mul, dle, decide_true, decide_false, Bool.not_true, Bool.not_false, decide_eq_true_eq, k0, z]
    rw [chs_gt (by omega)]; rfl
def wsum (n c a : Nat) (m : Nat) : Nat := foldN (fun j v => v + chs a j * chs (n - a) (c - j)) 0 m
theorem wsum_le {n c a : Nat} (hn : n ≤ 30) (ha : a ≤ n) (m : Nat) : wsum n c a m ≤ m * 1073741824 := by
  induction m with
  | zero => exact Nat.zero_le _
  | succ m ih =>
    show wsum n c a m + chs a m * chs (n - a) (c - m) ≤ _
    have h1 := Nat.mul_le_mul (chs_le a m) (chs_le (n - a) (c - m))
    rw [← Nat.pow_add, show a + (n - a) = n by omega] at h1
    have h2 : 2 ^ n ≤ 2 ^ 30 := Nat.pow_le_pow_right (by decide) hn
    omega
theorem t_X11_waysOfAtMost (h : AH) {w n c a : Nat} (hn : n ≤ 30) (hw : w ≤ c) (hc : c ≤ n) (ha : a ≤ n) : wp (f_X11_waysOfAtMost (nI w) (nI n) (nI c) (nI a) h) (fun r h' => r = nL' (wsum n c a (w + 1)) ∧ h' = h) := by
  unfold f_X11_waysOfAtMost
  refine wp_g3 (w + 1) (fun i x1 x2 hh => x2 = nI i ∧ x1 = nL' (wsum n c a i) ∧ hh = h) ⟨rfl, rfl, rfl⟩ (by omega) ?_ ?_
  · rintro K x1 x2 hh ⟨rfl, rfl, rfl⟩
    simp (config := {decide := true, maxSteps := 5000000}) (disch := omega) only [↓reduceIte, ↓wp_some, ↓wp_none, wp_ite, ↓wp_cl, ↓wp_rz, ↓wp_nz, ↓wp_nzL, ↓wp_fI, ↓wp_fL, ↓wp_fR, ↓wp_pI, ↓wp_pL, ↓wp_pR, ↓wp_pZ, ↓wp_aI, ↓wp_aL, ↓wp_aR, ↓wp_bI, ↓wp_bL, ↓wp_bR, ↓wp_rO, ↓wp_cO, ↓wp_nO, ↓wp_iO, ↓wp_tbI, ↓wp_tbL, ↓wp_jn, q_okT, q_okA, q_gI, q_gL, q_gR, q_sI, q_sL, q_sR, q_SI, q_SL, q_SR, q_II, q_IL, q_IR, q_LI, q_LL, q_LR, q_RI, q_RL, q_RR, List.contains_cons, List.contains_nil, Nat.reduceBEq, Nat.reduceEqDiff, beq_self_eq_true, Bool.or_false, Bool.false_or, Bool.true_or, Bool.or_true, Bool.and_true, Bool.true_and, Bool.false_and, Bool.and_false, if_true, if_false, Bool.false_eq_true, true_and, and_true, false_and, and_false, and_self, not_true, not_false_iff, reduceCtorEq, forall_const, false_imp_iff, true_imp_iff, true_or, or_true, false_or, or_false, n1_0, m1neg, ne_eq, nle2, n24, n10, nle, b10, b11, am1, n0m1, Int32.add_zero, Int32.zero_add, ite_true, ite_false, Bool.and_eq_true, nI_m4, nI_m5, nI_m8, nI_m10, nI_m12, nI_m24, nI_m31, nI_m40, nI_m60, nI_m81, nI_m161, nI_m170, nI_p2, nI_p3, nI_p4, nI_p5, nI_p6, nI_pred, nI_leI, nI_ltI, nI_eq, nI_clamp, nI_neg, nI_ge0, nI_neg1, nI_1, nI_add, nI_mul, dle, decide_true, decide_false, Bool.not_true, Bool.not_false, decide_eq_true_eq, show (w < w + 1) = True from eq_true (by omega)]
  · rintro K i x1 x2 hh hi ⟨rfl, rfl, rfl⟩ ih
    have e1 : nI n - nI a = nI (n - a) := nI_sub ha
    have e2 : nI c - nI i = nI (c - i) := nI_sub (by omega)
    have e3 : nL' (wsum n c a i) + nL' (chs a i) * nL' (chs (n - a) (c - i)) = nL' (wsum n c a (i + 1)) := by
      unfold nL'
      rw [← Int64.ofNat_mul, ← Int64.ofNat_add]; rfl
    have ih := ih (nL' (wsum n c a (i + 1))) (nI (i + 1)) hh ⟨rfl, rfl, rfl⟩
    have wi : ¬ nI w < nI i := by rw [nI_ltI (by omega) (by omega)]; omega
    simp (config := {decide := true, maxSteps := 5000000}) (disch := omega) only [↓reduceIte, ↓wp_some, ↓wp_none, wp_ite, ↓wp_cl, ↓wp_rz, ↓wp_nz, ↓wp_nzL, ↓wp_fI, ↓wp_fL, ↓wp_fR, ↓wp_pI, ↓wp_pL, ↓wp_pR, ↓wp_pZ, ↓wp_aI, ↓wp_aL, ↓wp_aR, ↓wp_bI, ↓wp_bL, ↓wp_bR, ↓wp_rO, ↓wp_cO, ↓wp_nO, ↓wp_iO, ↓wp_tbI, ↓wp_tbL, ↓wp_jn, q_okT, q_okA, q_gI, q_gL, q_gR, q_sI, q_sL, q_sR, q_SI, q_SL, q_SR, q_II, q_IL, q_IR, q_LI, q_LL, q_LR, q_RI, q_RL, q_RR, List.contains_cons, List.contains_nil, Nat.reduceBEq, Nat.reduceEqDiff, beq_self_eq_true, Bool.or_false, Bool.false_or, Bool.true_or, Bool.or_true, Bool.and_true, Bool.true_and, Bool.false_and, Bool.and_false, if_true, if_false, Bool.false_eq_true, true_and, and_true, false_and, and_false, and_self, not_true, not_false_iff, reduceCtorEq, forall_const, false_imp_iff, true_imp_iff, true_or, or_true, false_or, or_false, wi, wp_use (t_X11_ways hh (n := a) (k := i) (by omega) (by omega)), e1, e2, wp_use (t_X11_ways hh (n := n - a) (k := c - i) (by omega) (by omega)), e3]
    rw [nI_1]
    exact ih
/-- from w + d down to w + 1 the first that p holds of, else w -/
def bndN (p : Nat → Bool) (w : Nat) : Nat → Nat
  | 0 => w
  | d + 1 => if p (w + (d + 1)) = true then w + (d + 1) else bndN p w d
theorem bndN_s (p : Nat → Bool) (w d : Nat) : bndN p w (d + 1) = if p (w + (d + 1)) = true then w + (d + 1) else bndN p w d := rfl
def okB_ (n c w a : Nat) : Bool := decide (chs n c ≤ 20 * wsum n c a (w + 1))
theorem i64_le {a b : Nat} (ha : a < 2 ^ 63) (hb : b < 2 ^ 63) : (lg_cmp (nL' a) (nL' b) < 0) = (a < b) := propext ((lg_cmp_lt _ _).trans (Int64.ofNat_lt_iff_lt ha hb))
theorem t_X11_boundOf (h : AH) {n c w : Nat} (hn : n ≤ 30) (hw : w ≤ c) (hc : c ≤ n) : wp (f_X11_boundOf (nI n) (nI c) (nI w) h) (fun r h' => r = nI (bndN (okB_ n c w) w (n - c)) ∧ h' = h) := by
  unfold f_X11_boundOf
  have e0 : nI n - nI c + nI w = nI (w + (n - c)) := by rw [nI_sub hc, nI_add]; congr 1; omega
  rw [e0]
  refine wp_d2 (n - c) (fun j x1 hh => x1 = nI (w + j) ∧ j ≤ n - c ∧ hh = h ∧ bndN (okB_ n c w) w (n - c) = bndN (okB_ n c w) w j) ⟨rfl, Nat.le_refl _, rfl, rfl⟩ (by omega) ?_ ?_
  · rintro K x1 hh ⟨rfl, -, rfl, e⟩
    rw [e]
    simp (config := {decide := true, maxSteps := 5000000}) (disch := omega) only [↓reduceIte, ↓wp_some, ↓wp_none, wp_ite, ↓wp_cl, ↓wp_rz, ↓wp_nz, ↓wp_nzL, ↓wp_fI, ↓wp_fL, ↓wp_fR, ↓wp_pI, ↓wp_pL, ↓wp_pR, ↓wp_pZ, ↓wp_aI, ↓wp_aL, ↓wp_aR, ↓wp_bI, ↓wp_bL, ↓wp_bR, ↓wp_rO, ↓wp_cO, ↓wp_nO, ↓wp_iO, ↓wp_tbI, ↓wp_tbL, ↓wp_jn, q_okT, q_okA, q_gI, q_gL, q_gR, q_sI, q_sL, q_sR, q_SI, q_SL, q_SR, q_II, q_IL, q_IR, q_LI, q_LL, q_LR, q_RI, q_RL, q_RR, List.contains_cons, List.contains_nil, Nat.reduceBEq, Nat.reduceEqDiff, beq_self_eq_true, Bool.or_false, Bool.false_or, Bool.true_or, Bool.or_true, Bool.and_true, Bool.true_and, Bool.false_and, Bool.and_false, if_true, if_false, Bool.false_eq_true, true_and, and_true, false_and, and_false, and_self, not_true, not_false_iff, reduceCtorEq, forall_const, false_imp_iff, true_imp_iff, true_or, or_true, false_or, or_false, n1_0, m1neg, ne_eq, nle2, n24, n10, nle, b10, b11, am1, n0m1, Int32.add_zero, Int32.zero_add, ite_true, ite_false, Bool.and_eq_true, nI_m4, nI_m5, nI_m8, nI_m10, nI_m12, nI_m24, nI_m31, nI_m40, nI_m60, nI_m81, nI_m161, nI_m170, nI_p2, nI_p3, nI_p4, nI_p5, nI_p6, nI_pred, nI_leI, nI_ltI, nI_eq, nI_clamp, nI_neg, nI_ge0, nI_neg1, nI_1, nI_add, nI_mul, dle, decide_true, decide_false, Bool.not_true, Bool.not_false, decide_eq_true_eq, Nat.add_zero, Nat.le_refl]
    rfl
  · rintro K j x1 hh hj ⟨rfl, hj2, rfl, e⟩ ih
    have lw : ¬ nI (w + (j + 1)) ≤ nI w := by rw [nI_leI (by omega) (by omega)]; omega
    have b1 := wsum_le (n := n) (c := c) (a := w + (j + 1)) hn (by omega) (w + 1)
    have b2 := chs_30 hn c
    have b3 : wsum n c (w + (j + 1)) (w + 1) ≤ 31 * 1073741824 := Nat.le_trans b1 (Nat.mul_le_mul_right _ (by omega))
    have e20 : (20 : Int64) * nL' (wsum n c (w + (j + 1)) (w + 1)) = nL' (20 * wsum n c (w + (j + 1)) (w + 1)) := by
      unfold nL'
      rw [Int64.ofNat_mul]; rfl
    have cmp := i64_le (a := 20 * wsum n c (w + (j + 1)) (w + 1)) (b := chs n c) (by omega) (by omega)
    have dn : nI (w + (j + 1)) + -1 = nI (w + j) := by rw [am1, ← Nat.add_assoc, nI_pred]
    rw [bndN_s _ _ j] at e
    by_cases z : okB_ n c w (w + (j + 1)) = true
    · have z2 : ¬ 20 * wsum n c (w + (j + 1)) (w + 1) < chs n c := by unfold okB_ at z; have := of_decide_eq_true z; omega
      rw [if_pos z] at e
      rw [e]
      simp (config := {decide := true, maxSteps := 5000000}) (disch := omega) only [↓reduceIte, ↓wp_some, ↓wp_none, wp_ite, ↓wp_cl, ↓wp_rz, ↓wp_nz, ↓wp_nzL, ↓wp_fI, ↓wp_fL, ↓wp_fR, ↓wp_pI, ↓wp_pL, ↓wp_pR, ↓wp_pZ, ↓wp_aI, ↓wp_aL, ↓wp_aR, ↓wp_bI, ↓wp_bL, ↓wp_bR, ↓wp_rO, ↓wp_cO, ↓wp_nO, ↓wp_iO, ↓wp_tbI, ↓wp_tbL, ↓wp_jn, q_okT, q_okA, q_gI, q_gL, q_gR, q_sI, q_sL, q_sR, q_SI, q_SL, q_SR, q_II, q_IL, q_IR, q_LI, q_LL, q_LR, q_RI, q_RL, q_RR, List.contains_cons, List.contains_nil, Nat.reduceBEq, Nat.reduceEqDiff, beq_self_eq_true, Bool.or_false, Bool.false_or, Bool.true_or, Bool.or_true, Bool.and_true, Bool.true_and, Bool.false_and, Bool.and_false, if_true, if_false, Bool.false_eq_true, true_and, and_true, false_and, and_false, and_self, not_true, not_false_iff, reduceCtorEq, forall_const, false_imp_iff, true_imp_iff, true_or, or_true, false_or, or_false, lw, wp_use (t_X11_waysOfAtMost hh (w := w) (n := n) (c := c) (a := w + (j + 1)) hn hw hc (by omega)), wp_use (t_X11_ways hh (n := n) (k := c) hn (by omega)), e20, cmp, dn, z2]
    · have z2 : 20 * wsum n c (w + (j + 1)) (w + 1) < chs n c := by unfold okB_ at z; simp at z; omega
      rw [if_neg z] at e
      simp (config := {decide := true, maxSteps := 5000000}) (disch := omega) only [↓reduceIte, ↓wp_some, ↓wp_none, wp_ite, ↓wp_cl, ↓wp_rz, ↓wp_nz, ↓wp_nzL, ↓wp_fI, ↓wp_fL, ↓wp_fR, ↓wp_pI, ↓wp_pL, ↓wp_pR, ↓wp_pZ, ↓wp_aI, ↓wp_aL, ↓wp_aR, ↓wp_bI, ↓wp_bL, ↓wp_bR, ↓wp_rO, ↓wp_cO, ↓wp_nO, ↓wp_iO, ↓wp_tbI, ↓wp_tbL, ↓wp_jn, q_okT, q_okA, q_gI, q_gL, q_gR, q_sI, q_sL, q_sR, q_SI, q_SL, q_SR, q_II, q_IL, q_IR, q_LI, q_LL, q_LR, q_RI, q_RL, q_RR, List.contains_cons, List.contains_nil, Nat.reduceBEq, Nat.reduceEqDiff, beq_self_eq_true, Bool.or_false, Bool.false_or, Bool.true_or, Bool.or_true, Bool.and_true, Bool.true_and, Bool.false_and, Bool.and_false, if_true, if_false, Bool.false_eq_true, true_and, and_true, false_and, and_false, and_self, not_true, not_false_iff, reduceCtorEq, forall_const, false_imp_iff, true_imp_iff, true_or, or_true, false_or, or_false, lw, wp_use (t_X11_waysOfAtMost hh (w := w) (n := n) (c := c) (a := w + (j + 1)) hn hw hc (by omega)), wp_use (t_X11_ways hh (n := n) (k := c) hn (by omega)), e20, cmp, dn, z2]
      exact ih _ _ ⟨rfl, by omega, rfl, e⟩
