/-! rule: the bytes of the tape, runs of them; the class's reading of them -/
def runTo (q : Nat → Bool) : Nat → Nat → Nat
  | 0, p => p
  | f + 1, p => if q p = true then runTo q f (p + 1) else p
theorem runTo_eq {q : Nat → Bool} : ∀ (f p j : Nat), (∀ i, i < j → q (p + i) = true) → (j = f ∨ q (p + j) = false) → j ≤ f → runTo q f p = p + j := by
  intro f
  induction f with
  | zero => intro p j _ _ h; have : j = 0 := by omega
            rw [this]; rfl
  | succ f ih =>
    intro p j h1 h2 h3
    show (if q p = true then runTo q f (p + 1) else p) = _
    cases j with
    | zero =>
      rcases h2 with e | e
      · omega
      · rw [Nat.add_zero] at e; rw [e]; rfl
    | succ j =>
      have := h1 0 (by omega)
      rw [Nat.add_zero] at this
      rw [if_pos this, ih (p + 1) j (fun i hi => by have := h1 (i + 1) (by omega); rw [show p + 1 + i = p + (i + 1) by omega]; exact this) (by rw [show p + 1 + j = p + (j + 1) by omega]; exact h2.imp (fun e => by omega) id) (by omega)]
      omega
def byN (w : AH) (i : Nat) : Nat := (hI w 68 i &&& 255).toNatClampNeg
def lenT (w : AH) : Nat := (hI w 49 25).toNatClampNeg
def isLet (b : Nat) : Bool := decide (97 ≤ b ∧ b ≤ 122)
def isDig (b : Nat) : Bool := decide (48 ≤ b ∧ b ≤ 57)
/-- so a byte lies in the reference's row -/
def sgn (b : Nat) : Int32 := nI b - (if b < 128 then 0 else 256)
/-- the tape's bytes -/
def WBy (w : AH) : Prop := ∀ i, i < 160 → ∃ b, b < 256 ∧ hI w 68 i = sgn b
theorem sgn_and : ∀ b : Nat, b < 256 → sgn b &&& 255 = nI b := by decide +kernel
theorem WBy.at {w : AH} (Y : WBy w) {i : Nat} (hi : i < 160) : byN w i < 256 ∧ hI w 68 i = sgn (byN w i) ∧ hI w 68 i &&& 255 = nI (byN w i) := by
  obtain ⟨b, hb, e⟩ := Y i hi
  have : byN w i = b := by unfold byN; rw [e, sgn_and b hb, nI_clamp (by omega)]
  rw [this]
  exact ⟨hb, e, by rw [e, sgn_and b hb]⟩
theorem lenT_eq {w : AH} (F : WF1 w) : lenT w ≤ 160 ∧ hI w 49 25 = nI (lenT w) := by
  obtain ⟨k, hk, e⟩ := F
  have : lenT w = k := by unfold lenT; rw [e, nI_clamp (by omega)]
  rw [this]
  exact ⟨hk, e⟩
theorem t_X8_byteAt {h w : AH} {P : Nat → Prog} {ad : Nat → Nat} (R : RC h w P ad) (F : WF1 w) (Y : WBy w) {p : Nat} (hp : p < 2 ^ 31) : wp (f_X8_byteAt (some 9) (nI p) h) (fun r h' => r = (if p < lenT w then nI (byN w p) else -1) ∧ h' = h) := by
  have l := R.l
  obtain ⟨f1, f2⟩ := lenT_eq F
  have t0 : hI h 9 0 = nI (lenT w) := by rw [R.tt.1]; exact f2
  have p0 : ¬ nI p < 0 := nI_pos hp
  have cp : (nI p).toNatClampNeg = p := nI_clamp hp
  unfold f_X8_byteAt
  by_cases c : p < lenT w
  · have c1 : ¬ nI (lenT w) ≤ nI p := by rw [nI_leI (by omega) (by omega)]; omega
    have c2 : nI p < 160 := by rw [show (160 : Int32) = nI 160 from rfl, nI_ltI (by omega) (by omega)]; omega
    have e : hI h 10 p = nI (byN w p) := by rw [R.tt.2 p (by omega)]; exact (Y.at (by omega)).2.2
    simp (config := {decide := true, maxSteps := 5000000}) (disch := omega) only [↓reduceIte, ↓wp_some, ↓wp_none, wp_ite, ↓wp_cl, ↓wp_rz, ↓wp_nz, ↓wp_nzL, ↓wp_fI, ↓wp_fL, ↓wp_fR, ↓wp_pI, ↓wp_pL, ↓wp_pR, ↓wp_pZ, ↓wp_aI, ↓wp_aL, ↓wp_aR, ↓wp_bI, ↓wp_bL, ↓wp_bR, ↓wp_rO, ↓wp_cO, ↓wp_nO, ↓wp_iO, ↓wp_tbI, ↓wp_tbL, ↓wp_jn, q_okT, q_okA, q_gI, q_gL, q_gR, q_sI, q_sL, q_sR, q_SI, q_SL, q_SR, q_IL, q_IR, q_LI, q_LR, q_RI, q_RL, List.contains_cons, List.contains_nil, Nat.reduceBEq, Nat.reduceEqDiff, beq_self_eq_true, Bool.or_false, Bool.false_or, Bool.true_or, Bool.or_true, Bool.and_true, Bool.true_and, Bool.false_and, Bool.and_false, if_true, if_false, Bool.false_eq_true, true_and, and_true, false_and, and_false, and_self, not_true, not_false_iff, reduceCtorEq, forall_const, false_imp_iff, true_imp_iff, true_or, or_true, false_or, or_false, l.r0_0, l.r0_1, l.r0_2, l.r0_3, l.r0_4, l.r0_5, l.r1_1, l.r1_2, l.r1_4, l.r1_6, l.r1_7, l.r1_8, l.r8_0, l.r8_3, l.r8_4, l.r8_5, l.r8_6, l.r8_7, l.r8_8, l.r8_9, l.r9_1, l.r9_2, l.r9_3, l.r9_4, l.r9_9, l.r21_0, l.r21_1, l.r21_3, l.r21_4, l.r21_5, l.r21_6, l.r21_7, l.r21_8, l.r28_3, l.r28_4, l.r28_5, l.r28_6, l.r28_7, l.r28_9, l.r35_0, l.r35_1, l.r35_2, l.r35_3, l.r35_4, l.r35_5, l.r36_4, l.r38_4, l.r40_4, l.r42_4, l.r44_4, l.r46_4, l.s0, l.s1, l.s2, l.s3, l.s4, l.s5, l.s6, l.s7, l.s8, l.s9, l.s10, l.s11, l.s12, l.s13, l.s14, l.s15, l.s16, l.s17, l.s18, l.s19, l.s20, l.s21, l.s22, l.s23, l.s24, l.s25, l.s26, l.s27, l.s28, l.s29, l.s30, l.s31, l.s32, l.s33, l.s34, l.s35, l.s36, l.s37, l.s38, l.s39, l.s40, l.s41, l.s42, l.s43, l.s44, l.s45, l.s46, l.s47, l.s48, p0, t0, c1, c2, c, cp, e, nI_neg, dle, decide_false, Bool.not_false]
  · have c1 : nI (lenT w) ≤ nI p := by rw [nI_leI (by omega) (by omega)]; omega
    simp (config := {decide := true, maxSteps := 5000000}) (disch := omega) only [↓reduceIte, ↓wp_some, ↓wp_none, wp_ite, ↓wp_cl, ↓wp_rz, ↓wp_nz, ↓wp_nzL, ↓wp_fI, ↓wp_fL, ↓wp_fR, ↓wp_pI, ↓wp_pL, ↓wp_pR, ↓wp_pZ, ↓wp_aI, ↓wp_aL, ↓wp_aR, ↓wp_bI, ↓wp_bL, ↓wp_bR, ↓wp_rO, ↓wp_cO, ↓wp_nO, ↓wp_iO, ↓wp_tbI, ↓wp_tbL, ↓wp_jn, q_okT, q_okA, q_gI, q_gL, q_gR, q_sI, q_sL, q_sR, q_SI, q_SL, q_SR, q_IL, q_IR, q_LI, q_LR, q_RI, q_RL, List.contains_cons, List.contains_nil, Nat.reduceBEq, Nat.reduceEqDiff, beq_self_eq_true, Bool.or_false, Bool.false_or, Bool.true_or, Bool.or_true, Bool.and_true, Bool.true_and, Bool.false_and, Bool.and_false, if_true, if_false, Bool.false_eq_true, true_and, and_true, false_and, and_false, and_self, not_true, not_false_iff, reduceCtorEq, forall_const, false_imp_iff, true_imp_iff, true_or, or_true, false_or, or_false, l.r0_0, l.r0_1, l.r0_2, l.r0_3, l.r0_4, l.r0_5, l.r1_1, l.r1_2, l.r1_4, l.r1_6, l.r1_7, l.r1_8, l.r8_0, l.r8_3, l.r8_4, l.r8_5, l.r8_6, l.r8_7, l.r8_8, l.r8_9, l.r9_1, l.r9_2, l.r9_3, l.r9_4, l.r9_9, l.r21_0, l.r21_1, l.r21_3, l.r21_4, l.r21_5, l.r21_6, l.r21_7, l.r21_8, l.r28_3, l.r28_4, l.r28_5, l.r28_6, l.r28_7, l.r28_9, l.r35_0, l.r35_1, l.r35_2, l.r35_3, l.r35_4, l.r35_5, l.r36_4, l.r38_4, l.r40_4, l.r42_4, l.r44_4, l.r46_4, l.s0, l.s1, l.s2, l.s3, l.s4, l.s5, l.s6, l.s7, l.s8, l.s9, l.s10, l.s11, l.s12, l.s13, l.s14, l.s15, l.s16, l.s17, l.s18, l.s19, l.s20, l.s21, l.s22, l.s23, l.s24, l.s25, l.s26, l.s27, l.s28, l.s29, l.s30, l.s31, l.s32, l.s33, l.s34, l.s35, l.s36, l.s37, l.s38, l.s39, l.s40, l.s41, l.s42, l.s43, l.s44, l.s45, l.s46, l.s47, l.s48, p0, t0, c1, c]
theorem t_X8_isLetter (h : AH) {b : Nat} (hb : b < 256) : wp (f_X8_isLetter (nI b) h) (fun r h' => r = (if isLet b = true then 1 else 0) ∧ h' = h) := by
  have e1 : (nI b < 97) = (b < 97) := by rw [show (97 : Int32) = nI 97 from rfl]; exact propext (by rw [nI_ltI (by omega) (by omega)])
  have e2 : (122 < nI b) = (122 < b) := by rw [show (122 : Int32) = nI 122 from rfl]; exact propext (by rw [nI_ltI (by omega) (by omega)])
  unfold f_X8_isLetter isLet
  by_cases c1 : b < 97
  · have : ¬ (97 ≤ b ∧ b ≤ 122) := by omega
    simp (config := {decide := true, maxSteps := 5000000}) (disch := omega) only [↓reduceIte, ↓wp_some, ↓wp_none, wp_ite, ↓wp_cl, ↓wp_rz, ↓wp_nz, ↓wp_nzL, ↓wp_fI, ↓wp_fL, ↓wp_fR, ↓wp_pI, ↓wp_pL, ↓wp_pR, ↓wp_pZ, ↓wp_aI, ↓wp_aL, ↓wp_aR, ↓wp_bI, ↓wp_bL, ↓wp_bR, ↓wp_rO, ↓wp_cO, ↓wp_nO, ↓wp_iO, ↓wp_tbI, ↓wp_tbL, ↓wp_jn, q_okT, q_okA, q_gI, q_gL, q_gR, q_sI, q_sL, q_sR, q_SI, q_SL, q_SR, q_IL, q_IR, q_LI, q_LR, q_RI, q_RL, List.contains_cons, List.contains_nil, Nat.reduceBEq, Nat.reduceEqDiff, beq_self_eq_true, Bool.or_false, Bool.false_or, Bool.true_or, Bool.or_true, Bool.and_true, Bool.true_and, Bool.false_and, Bool.and_false, if_true, if_false, Bool.false_eq_true, true_and, and_true, false_and, and_false, and_self, not_true, not_false_iff, reduceCtorEq, forall_const, false_imp_iff, true_imp_iff, true_or, or_true, false_or, or_false, e1, c1, this, decide_false]
  · by_cases c2 : 122 < b
    · have : ¬ (97 ≤ b ∧ b ≤ 122) := by omega
      simp (config := {decide := true, maxSteps := 5000000}) (disch := omega) only [↓reduceIte, ↓wp_some, ↓wp_none, wp_ite, ↓wp_cl, ↓wp_rz, ↓wp_nz, ↓wp_nzL, ↓wp_fI, ↓wp_fL, ↓wp_fR, ↓wp_pI, ↓wp_pL, ↓wp_pR, ↓wp_pZ, ↓wp_aI, ↓wp_aL, ↓wp_aR, ↓wp_bI, ↓wp_bL, ↓wp_bR, ↓wp_rO, ↓wp_cO, ↓wp_nO, ↓wp_iO, ↓wp_tbI, ↓wp_tbL, ↓wp_jn, q_okT, q_okA, q_gI, q_gL, q_gR, q_sI, q_sL, q_sR, q_SI, q_SL, q_SR, q_IL, q_IR, q_LI, q_LR, q_RI, q_RL, List.contains_cons, List.contains_nil, Nat.reduceBEq, Nat.reduceEqDiff, beq_self_eq_true, Bool.or_false, Bool.false_or, Bool.true_or, Bool.or_true, Bool.and_true, Bool.true_and, Bool.false_and, Bool.and_false, if_true, if_false, Bool.false_eq_true, true_and, and_true, false_and, and_false, and_self, not_true, not_false_iff, reduceCtorEq, forall_const, false_imp_iff, true_imp_iff, true_or, or_true, false_or, or_false, e1, e2, c1, c2, this, decide_false]
    · have : 97 ≤ b ∧ b ≤ 122 := by omega
      simp (config := {decide := true, maxSteps := 5000000}) (disch := omega) only [↓reduceIte, ↓wp_some, ↓wp_none, wp_ite, ↓wp_cl, ↓wp_rz, ↓wp_nz, ↓wp_nzL, ↓wp_fI, ↓wp_fL, ↓wp_fR, ↓wp_pI, ↓wp_pL, ↓wp_pR, ↓wp_pZ, ↓wp_aI, ↓wp_aL, ↓wp_aR, ↓wp_bI, ↓wp_bL, ↓wp_bR, ↓wp_rO, ↓wp_cO, ↓wp_nO, ↓wp_iO, ↓wp_tbI, ↓wp_tbL, ↓wp_jn, q_okT, q_okA, q_gI, q_gL, q_gR, q_sI, q_sL, q_sR, q_SI, q_SL, q_SR, q_IL, q_IR, q_LI, q_LR, q_RI, q_RL, List.contains_cons, List.contains_nil, Nat.reduceBEq, Nat.reduceEqDiff, beq_self_eq_true, Bool.or_false, Bool.false_or, Bool.true_or, Bool.or_true, Bool.and_true, Bool.true_and, Bool.false_and, Bool.and_false, if_true, if_false, Bool.false_eq_true, true_and, and_true, false_and, and_false, and_self, not_true, not_false_iff, reduceCtorEq, forall_const, false_imp_iff, true_imp_iff, true_or, or_true, false_or, or_false, e1, e2, c1, c2, this, decide_true]
theorem t_X8_isDigit (h : AH) {b : Nat} (hb : b < 256) : wp (f_X8_isDigit (nI b) h) (fun r h' => r = (if isDig b = true then 1 else 0) ∧ h' = h) := by
  have e1 : (nI b < 48) = (b < 48) := by rw [show (48 : Int32) = nI 48 from rfl]; exact propext (by rw [nI_ltI (by omega) (by omega)])
  have e2 : (57 < nI b) = (57 < b) := by rw [show (57 : Int32) = nI 57 from rfl]; exact propext (by rw [nI_ltI (by omega) (by omega)])
  unfold f_X8_isDigit isDig
  by_cases c1 : b < 48
  · have : ¬ (48 ≤ b ∧ b ≤ 57) := by omega
    simp (config := {decide := true, maxSteps := 5000000}) (disch := omega) only [↓reduceIte, ↓wp_some, ↓wp_none, wp_ite, ↓wp_cl, ↓wp_rz, ↓wp_nz, ↓wp_nzL, ↓wp_fI, ↓wp_fL, ↓wp_fR, ↓wp_pI, ↓wp_pL, ↓wp_pR, ↓wp_pZ, ↓wp_aI, ↓wp_aL, ↓wp_aR, ↓wp_bI, ↓wp_bL, ↓wp_bR, ↓wp_rO, ↓wp_cO, ↓wp_nO, ↓wp_iO, ↓wp_tbI, ↓wp_tbL, ↓wp_jn, q_okT, q_okA, q_gI, q_gL, q_gR, q_sI, q_sL, q_sR, q_SI, q_SL, q_SR, q_IL, q_IR, q_LI, q_LR, q_RI, q_RL, List.contains_cons, List.contains_nil, Nat.reduceBEq, Nat.reduceEqDiff, beq_self_eq_true, Bool.or_false, Bool.false_or, Bool.true_or, Bool.or_true, Bool.and_true, Bool.true_and, Bool.false_and, Bool.and_false, if_true, if_false, Bool.false_eq_true, true_and, and_true, false_and, and_false, and_self, not_true, not_false_iff, reduceCtorEq, forall_const, false_imp_iff, true_imp_iff, true_or, or_true, false_or, or_false, e1, c1, this, decide_false]
  · by_cases c2 : 57 < b
    · have : ¬ (48 ≤ b ∧ b ≤ 57) := by omega
      simp (config := {decide := true, maxSteps := 5000000}) (disch := omega) only [↓reduceIte, ↓wp_some, ↓wp_none, wp_ite, ↓wp_cl, ↓wp_rz, ↓wp_nz, ↓wp_nzL, ↓wp_fI, ↓wp_fL, ↓wp_fR, ↓wp_pI, ↓wp_pL, ↓wp_pR, ↓wp_pZ, ↓wp_aI, ↓wp_aL, ↓wp_aR, ↓wp_bI, ↓wp_bL, ↓wp_bR, ↓wp_rO, ↓wp_cO, ↓wp_nO, ↓wp_iO, ↓wp_tbI, ↓wp_tbL, ↓wp_jn, q_okT, q_okA, q_gI, q_gL, q_gR, q_sI, q_sL, q_sR, q_SI, q_SL, q_SR, q_IL, q_IR, q_LI, q_LR, q_RI, q_RL, List.contains_cons, List.contains_nil, Nat.reduceBEq, Nat.reduceEqDiff, beq_self_eq_true, Bool.or_false, Bool.false_or, Bool.true_or, Bool.or_true, Bool.and_true, Bool.true_and, Bool.false_and, Bool.and_false, if_true, if_false, Bool.false_eq_true, true_and, and_true, false_and, and_false, and_self, not_true, not_false_iff, reduceCtorEq, forall_const, false_imp_iff, true_imp_iff, true_or, or_true, false_or, or_false, e1, e2, c1, c2, this, decide_false]
    · have : 48 ≤ b ∧ b ≤ 57 := by omega
      simp (config := {decide := true, maxSteps := 5000000}) (disch := omega) only [↓reduceIte, ↓wp_some, ↓wp_none, wp_ite, ↓wp_cl, ↓wp_rz, ↓wp_nz, ↓wp_nzL, ↓wp_fI, ↓wp_fL, ↓wp_fR, ↓wp_pI, ↓wp_pL, ↓wp_pR, ↓wp_pZ, ↓wp_aI, ↓wp_aL, ↓wp_aR, ↓wp_bI, ↓wp_bL, ↓wp_bR, ↓wp_rO, ↓wp_cO, ↓wp_nO, ↓wp_iO, ↓wp_tbI, ↓wp_tbL, ↓wp_jn, q_okT, q_okA, q_gI, q_gL, q_gR, q_sI, q_sL, q_sR, q_SI, q_SL, q_SR, q_IL, q_IR, q_LI, q_LR, q_RI, q_RL, List.contains_cons, List.contains_nil, Nat.reduceBEq, Nat.reduceEqDiff, beq_self_eq_true, Bool.or_false, Bool.false_or, Bool.true_or, Bool.or_true, Bool.and_true, Bool.true_and, Bool.false_and, Bool.and_false, if_true, if_false, Bool.false_eq_true, true_and, and_true, false_and, and_false, and_self, not_true, not_false_iff, reduceCtorEq, forall_const, false_imp_iff, true_imp_iff, true_or, or_true, false_or, or_false, e1, e2, c1, c2, this, decide_true]
theorem t_X8_isLetter_end (h : AH) : wp (f_X8_isLetter (-1) h) (fun r h' => r = 0 ∧ h' = h) := by unfold f_X8_isLetter; simp (config := {decide := true, maxSteps := 5000000}) (disch := omega) only [↓reduceIte, ↓wp_some, ↓wp_none, wp_ite, ↓wp_cl, ↓wp_rz, ↓wp_nz, ↓wp_nzL, ↓wp_fI, ↓wp_fL, ↓wp_fR, ↓wp_pI, ↓wp_pL, ↓wp_pR, ↓wp_pZ, ↓wp_aI, ↓wp_aL, ↓wp_aR, ↓wp_bI, ↓wp_bL, ↓wp_bR, ↓wp_rO, ↓wp_cO, ↓wp_nO, ↓wp_iO, ↓wp_tbI, ↓wp_tbL, ↓wp_jn, q_okT, q_okA, q_gI, q_gL, q_gR, q_sI, q_sL, q_sR, q_SI, q_SL, q_SR, q_IL, q_IR, q_LI, q_LR, q_RI, q_RL, List.contains_cons, List.contains_nil, Nat.reduceBEq, Nat.reduceEqDiff, beq_self_eq_true, Bool.or_false, Bool.false_or, Bool.true_or, Bool.or_true, Bool.and_true, Bool.true_and, Bool.false_and, Bool.and_false, if_true, if_false, Bool.false_eq_true, true_and, and_true, false_and, and_false, and_self, not_true, not_false_iff, reduceCtorEq, forall_const, false_imp_iff, true_imp_iff, true_or, or_true, false_or, or_false]
theorem t_X8_isDigit_end (h : AH) : wp (f_X8_isDigit (-1) h) (fun r h' => r = 0 ∧ h' = h) := by unfold f_X8_isDigit; simp (config := {decide := true, maxSteps := 5000000}) (disch := omega) only [↓reduceIte, ↓wp_some, ↓wp_none, wp_ite, ↓wp_cl, ↓wp_rz, ↓wp_nz, ↓wp_nzL, ↓wp_fI, ↓wp_fL, ↓wp_fR, ↓wp_pI, ↓wp_pL, ↓wp_pR, ↓wp_pZ, ↓wp_aI, ↓wp_aL, ↓wp_aR, ↓wp_bI, ↓wp_bL, ↓wp_bR, ↓wp_rO, ↓wp_cO, ↓wp_nO, ↓wp_iO, ↓wp_tbI, ↓wp_tbL, ↓wp_jn, q_okT, q_okA, q_gI, q_gL, q_gR, q_sI, q_sL, q_sR, q_SI, q_SL, q_SR, q_IL, q_IR, q_LI, q_LR, q_RI, q_RL, List.contains_cons, List.contains_nil, Nat.reduceBEq, Nat.reduceEqDiff, beq_self_eq_true, Bool.or_false, Bool.false_or, Bool.true_or, Bool.or_true, Bool.and_true, Bool.true_and, Bool.false_and, Bool.and_false, if_true, if_false, Bool.false_eq_true, true_and, and_true, false_and, and_false, and_self, not_true, not_false_iff, reduceCtorEq, forall_const, false_imp_iff, true_imp_iff, true_or, or_true, false_or, or_false]
/-- nothing changed but the place that is read next -/
def Sk (h h' : AH) : Prop := Sd h h' ∧ (∀ a, a ≠ 9 → hI h' a = hI h a) ∧ ∀ k, k ≠ 5 → hI h' 9 k = hI h 9 k
theorem Sk.refl (h : AH) : Sk h h := ⟨Sd.refl h, fun _ _ => rfl, fun _ _ => rfl⟩
theorem Sk.step {h h1 : AH} (s : Sk h h1) (v : Int32) : Sk h (wI h1 9 5 v) := ⟨s.1.wI 9 5 v (by decide) rfl, fun a ha => by rw [q_ne ha]; exact s.2.1 a ha, fun k hk => by rw [q_II, if_neg (fun q => hk q.2)]; exact s.2.2 k hk⟩
def blankQ (w : AH) (i : Nat) : Bool := decide (i < lenT w ∧ byN w i = 32)
theorem t_X8_skipBlanks {h w : AH} {P : Nat → Prog} {ad : Nat → Nat} (R : RC h w P ad) (F : WF1 w) (Y : WBy w) {p : Nat} (hp : p ≤ 160) (e5 : hI h 9 5 = nI p) : wp (f_X8_skipBlanks (some 9) h) (fun _ h' => hI h' 9 5 = nI (runTo (blankQ w) 160 p) ∧ Sk h h') := by
  unfold f_X8_skipBlanks
  refine wp_g2 160 (fun j x hh => x = nI j ∧ hI hh 9 5 = nI (p + j) ∧ Sk h hh ∧ ∀ i, i < j → blankQ w (p + i) = true) ⟨rfl, e5, Sk.refl h, fun i hi => absurd hi (by omega)⟩ (by omega) ?_ ?_
  · rintro G x hh ⟨rfl, e, s, a⟩
    have g : (160 : Int32) ≤ nI 160 := by decide
    rw [runTo_eq 160 p 160 a (Or.inl rfl) (Nat.le_refl _)]
    simp (config := {decide := true, maxSteps := 5000000}) (disch := omega) only [↓reduceIte, ↓wp_some, ↓wp_none, wp_ite, ↓wp_cl, ↓wp_rz, ↓wp_nz, ↓wp_nzL, ↓wp_fI, ↓wp_fL, ↓wp_fR, ↓wp_pI, ↓wp_pL, ↓wp_pR, ↓wp_pZ, ↓wp_aI, ↓wp_aL, ↓wp_aR, ↓wp_bI, ↓wp_bL, ↓wp_bR, ↓wp_rO, ↓wp_cO, ↓wp_nO, ↓wp_iO, ↓wp_tbI, ↓wp_tbL, ↓wp_jn, q_okT, q_okA, q_gI, q_gL, q_gR, q_sI, q_sL, q_sR, q_SI, q_SL, q_SR, q_IL, q_IR, q_LI, q_LR, q_RI, q_RL, List.contains_cons, List.contains_nil, Nat.reduceBEq, Nat.reduceEqDiff, beq_self_eq_true, Bool.or_false, Bool.false_or, Bool.true_or, Bool.or_true, Bool.and_true, Bool.true_and, Bool.false_and, Bool.and_false, if_true, if_false, Bool.false_eq_true, true_and, and_true, false_and, and_false, and_self, not_true, not_false_iff, reduceCtorEq, forall_const, false_imp_iff, true_imp_iff, true_or, or_true, false_or, or_false, g]
    exact ⟨e, s⟩
  · rintro G j x hh hj ⟨rfl, e, s, a⟩ ih
    have g : ¬ (160 : Int32) ≤ nI j := by rw [show (160 : Int32) = nI 160 from rfl, nI_leI (by omega) (by omega)]; omega
    have R1 := R.sd s.1
    have l := R1.l
    have by_ := t_X8_byteAt R1 F Y (p := p + j) (by omega)
    have e1 : nI (p + j) + 1 = nI (p + (j + 1)) := nI_add _ 1
    have e2 : nI j + 1 = nI (j + 1) := nI_add _ 1
    have m32 : ¬ (-1 : Int32) = 32 := by decide
    by_cases c : p + j < lenT w
    · have b256 := (Y.at (i := p + j) (by have := (lenT_eq F).1; omega)).1
      rw [if_pos c] at by_
      by_cases d : byN w (p + j) = 32
      · have d2 : nI (byN w (p + j)) = 32 := by rw [d]; rfl
        have go := ih (nI (j + 1)) (wI hh 9 5 (nI (p + (j + 1)))) ⟨rfl, q_at, s.step _, fun i hi => by
          by_cases z : i = j
          · rw [z]; exact decide_eq_true ⟨c, d⟩
          · exact a i (by omega)⟩
        simp (config := {decide := true, maxSteps := 5000000}) (disch := omega) only [↓reduceIte, ↓wp_some, ↓wp_none, wp_ite, ↓wp_cl, ↓wp_rz, ↓wp_nz, ↓wp_nzL, ↓wp_fI, ↓wp_fL, ↓wp_fR, ↓wp_pI, ↓wp_pL, ↓wp_pR, ↓wp_pZ, ↓wp_aI, ↓wp_aL, ↓wp_aR, ↓wp_bI, ↓wp_bL, ↓wp_bR, ↓wp_rO, ↓wp_cO, ↓wp_nO, ↓wp_iO, ↓wp_tbI, ↓wp_tbL, ↓wp_jn, q_okT, q_okA, q_gI, q_gL, q_gR, q_sI, q_sL, q_sR, q_SI, q_SL, q_SR, q_IL, q_IR, q_LI, q_LR, q_RI, q_RL, List.contains_cons, List.contains_nil, Nat.reduceBEq, Nat.reduceEqDiff, beq_self_eq_true, Bool.or_false, Bool.false_or, Bool.true_or, Bool.or_true, Bool.and_true, Bool.true_and, Bool.false_and, Bool.and_false, if_true, if_false, Bool.false_eq_true, true_and, and_true, false_and, and_false, and_self, not_true, not_false_iff, reduceCtorEq, forall_const, false_imp_iff, true_imp_iff, true_or, or_true, false_or, or_false, l.r0_0, l.r0_1, l.r0_2, l.r0_3, l.r0_4, l.r0_5, l.r1_1, l.r1_2, l.r1_4, l.r1_6, l.r1_7, l.r1_8, l.r8_0, l.r8_3, l.r8_4, l.r8_5, l.r8_6, l.r8_7, l.r8_8, l.r8_9, l.r9_1, l.r9_2, l.r9_3, l.r9_4, l.r9_9, l.r21_0, l.r21_1, l.r21_3, l.r21_4, l.r21_5, l.r21_6, l.r21_7, l.r21_8, l.r28_3, l.r28_4, l.r28_5, l.r28_6, l.r28_7, l.r28_9, l.r35_0, l.r35_1, l.r35_2, l.r35_3, l.r35_4, l.r35_5, l.r36_4, l.r38_4, l.r40_4, l.r42_4, l.r44_4, l.r46_4, l.s0, l.s1, l.s2, l.s3, l.s4, l.s5, l.s6, l.s7, l.s8, l.s9, l.s10, l.s11, l.s12, l.s13, l.s14, l.s15, l.s16, l.s17, l.s18, l.s19, l.s20, l.s21, l.s22, l.s23, l.s24, l.s25, l.s26, l.s27, l.s28, l.s29, l.s30, l.s31, l.s32, l.s33, l.s34, l.s35, l.s36, l.s37, l.s38, l.s39, l.s40, l.s41, l.s42, l.s43, l.s44, l.s45, l.s46, l.s47, l.s48, g, e, wp_use by_, eq_true d2, e1, e2]
        exact go
      · have d2 : ¬ nI (byN w (p + j)) = 32 := by rw [show (32 : Int32) = nI 32 from rfl, nI_eq (by omega) (by omega)]; exact d
        rw [runTo_eq 160 p j a (Or.inr (decide_eq_false (fun q => d q.2))) (by omega)]
        simp (config := {decide := true, maxSteps := 5000000}) (disch := omega) only [↓reduceIte, ↓wp_some, ↓wp_none, wp_ite, ↓wp_cl, ↓wp_rz, ↓wp_nz, ↓wp_nzL, ↓wp_fI, ↓wp_fL, ↓wp_fR, ↓wp_pI, ↓wp_pL, ↓wp_pR, ↓wp_pZ, ↓wp_aI, ↓wp_aL, ↓wp_aR, ↓wp_bI, ↓wp_bL, ↓wp_bR, ↓wp_rO, ↓wp_cO, ↓wp_nO, ↓wp_iO, ↓wp_tbI, ↓wp_tbL, ↓wp_jn, q_okT, q_okA, q_gI, q_gL, q_gR, q_sI, q_sL, q_sR, q_SI, q_SL, q_SR, q_IL, q_IR, q_LI, q_LR, q_RI, q_RL, List.contains_cons, List.contains_nil, Nat.reduceBEq, Nat.reduceEqDiff, beq_self_eq_true, Bool.or_false, Bool.false_or, Bool.true_or, Bool.or_true, Bool.and_true, Bool.true_and, Bool.false_and, Bool.and_false, if_true, if_false, Bool.false_eq_true, true_and, and_true, false_and, and_false, and_self, not_true, not_false_iff, reduceCtorEq, forall_const, false_imp_iff, true_imp_iff, true_or, or_true, false_or, or_false, l.r0_0, l.r0_1, l.r0_2, l.r0_3, l.r0_4, l.r0_5, l.r1_1, l.r1_2, l.r1_4, l.r1_6, l.r1_7, l.r1_8, l.r8_0, l.r8_3, l.r8_4, l.r8_5, l.r8_6, l.r8_7, l.r8_8, l.r8_9, l.r9_1, l.r9_2, l.r9_3, l.r9_4, l.r9_9, l.r21_0, l.r21_1, l.r21_3, l.r21_4, l.r21_5, l.r21_6, l.r21_7, l.r21_8, l.r28_3, l.r28_4, l.r28_5, l.r28_6, l.r28_7, l.r28_9, l.r35_0, l.r35_1, l.r35_2, l.r35_3, l.r35_4, l.r35_5, l.r36_4, l.r38_4, l.r40_4, l.r42_4, l.r44_4, l.r46_4, l.s0, l.s1, l.s2, l.s3, l.s4, l.s5, l.s6, l.s7, l.s8, l.s9, l.s10, l.s11, l.s12, l.s13, l.s14, l.s15, l.s16, l.s17, l.s18, l.s19, l.s20, l.s21, l.s22, l.s23, l.s24, l.s25, l.s26, l.s27, l.s28, l.s29, l.s30, l.s31, l.s32, l.s33, l.s34, l.s35, l.s36, l.s37, l.s38, l.s39, l.s40, l.s41, l.s42, l.s43, l.s44, l.s45, l.s46, l.s47, l.s48, g, e, wp_use by_, d2]
        exact s
    · rw [if_neg c] at by_
      rw [runTo_eq 160 p j a (Or.inr (decide_eq_false (fun q => c q.1))) (by omega)]
      simp (config := {decide := true, maxSteps := 5000000}) (disch := omega) only [↓reduceIte, ↓wp_some, ↓wp_none, wp_ite, ↓wp_cl, ↓wp_rz, ↓wp_nz, ↓wp_nzL, ↓wp_fI, ↓wp_fL, ↓wp_fR, ↓wp_pI, ↓wp_pL, ↓wp_pR, ↓wp_pZ, ↓wp_aI, ↓wp_aL, ↓wp_aR, ↓wp_bI, ↓wp_bL, ↓wp_bR, ↓wp_rO, ↓wp_cO, ↓wp_nO, ↓wp_iO, ↓wp_tbI, ↓wp_tbL, ↓wp_jn, q_okT, q_okA, q_gI, q_gL, q_gR, q_sI, q_sL, q_sR, q_SI, q_SL, q_SR, q_IL, q_IR, q_LI, q_LR, q_RI, q_RL, List.contains_cons, List.contains_nil, Nat.reduceBEq, Nat.reduceEqDiff, beq_self_eq_true, Bool.or_false, Bool.false_or, Bool.true_or, Bool.or_true, Bool.and_true, Bool.true_and, Bool.false_and, Bool.and_false, if_true, if_false, Bool.false_eq_true, true_and, and_true, false_and, and_false, and_self, not_true, not_false_iff, reduceCtorEq, forall_const, false_imp_iff, true_imp_iff, true_or, or_true, false_or, or_false, l.r0_0, l.r0_1, l.r0_2, l.r0_3, l.r0_4, l.r0_5, l.r1_1, l.r1_2, l.r1_4, l.r1_6, l.r1_7, l.r1_8, l.r8_0, l.r8_3, l.r8_4, l.r8_5, l.r8_6, l.r8_7, l.r8_8, l.r8_9, l.r9_1, l.r9_2, l.r9_3, l.r9_4, l.r9_9, l.r21_0, l.r21_1, l.r21_3, l.r21_4, l.r21_5, l.r21_6, l.r21_7, l.r21_8, l.r28_3, l.r28_4, l.r28_5, l.r28_6, l.r28_7, l.r28_9, l.r35_0, l.r35_1, l.r35_2, l.r35_3, l.r35_4, l.r35_5, l.r36_4, l.r38_4, l.r40_4, l.r42_4, l.r44_4, l.r46_4, l.s0, l.s1, l.s2, l.s3, l.s4, l.s5, l.s6, l.s7, l.s8, l.s9, l.s10, l.s11, l.s12, l.s13, l.s14, l.s15, l.s16, l.s17, l.s18, l.s19, l.s20, l.s21, l.s22, l.s23, l.s24, l.s25, l.s26, l.s27, l.s28, l.s29, l.s30, l.s31, l.s32, l.s33, l.s34, l.s35, l.s36, l.s37, l.s38, l.s39, l.s40, l.s41, l.s42, l.s43, l.s44, l.s45, l.s46, l.s47, l.s48, g, e, wp_use by_, m32]
      exact s
