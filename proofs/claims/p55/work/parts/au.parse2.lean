/-! rule: the class's parser: its state, its small steps -/
def Sq (h h' : AH) : Prop := Sd h h' ∧ (∀ a, a ≠ 9 → a ≠ 14 → hI h' a = hI h a) ∧ ∀ k, k ≠ 6 → k ≠ 7 → k ≠ 8 → k ≠ 10 → hI h' 9 k = hI h 9 k
theorem Sq.refl (h : AH) : Sq h h := ⟨Sd.refl h, fun _ _ _ => rfl, fun _ _ _ _ _ => rfl⟩
theorem Sq.w {h0 hh : AH} (Q : Sq h0 hh) {k : Nat} (hk : k = 6 ∨ k = 7 ∨ k = 8 ∨ k = 10) (v : Int32) : Sq h0 (wI hh 9 k v) :=
  ⟨Q.1.wI 9 k v (by decide) (by rcases hk with rfl | rfl | rfl | rfl <;> rfl), fun a h1 h2 => by rw [q_ne h1]; exact Q.2.1 a h1 h2, fun j h1 h2 h3 h4 => by rw [q_II, if_neg (fun q => by rcases hk with rfl | rfl | rfl | rfl <;> simp_all)]; exact Q.2.2 j h1 h2 h3 h4⟩
theorem Sq.c {h0 hh : AH} (Q : Sq h0 hh) (k : Nat) (v : Int32) : Sq h0 (wI hh 14 k v) :=
  ⟨Q.1.wI 14 k v (by decide) rfl, fun a h1 h2 => by rw [q_ne h2]; exact Q.2.1 a h1 h2, fun j h1 h2 h3 h4 => by rw [q_ne (by decide)]; exact Q.2.2 j h1 h2 h3 h4⟩
def CsT (w h0 hh : AH) (m : Nat) (z : Int) (s : Prs) : Prop := Sq h0 hh ∧ match s with
  | .error p => p ≤ m ∧ hI hh 9 8 = nI (plc w p) ∧ ∃ i n, i ≤ m ∧ n ≤ 161 ∧ hI hh 9 7 = nI i ∧ hI hh 9 6 = tokS w i ∧ hI hh 9 10 = nI n
  | .ok (i, c) => i ≤ m ∧ (c.length : Int) + z ≤ i + 1 ∧ hI hh 9 8 = -1 ∧ hI hh 9 7 = nI i ∧ hI hh 9 6 = tokS w i ∧ hI hh 9 10 = nI c.length ∧ ∀ k, k < c.length → hI hh 14 k = encI (c.getD k (0, 0))
theorem CsT.z {w h0 hh : AH} {m : Nat} {z y : Int} {s : Prs} (C : CsT w h0 hh m z s) (h : y ≤ z) : CsT w h0 hh m y s := by
  cases s with
  | error p => exact C
  | ok x => exact ⟨C.1, C.2.1, by have := C.2.2.1; omega, C.2.2.2⟩
theorem getD_snoc {α : Type} (c : List α) (e d : α) {k : Nat} (hk : k < (c ++ [e]).length) : (c ++ [e]).getD k d = if k < c.length then c.getD k d else e := by
  rw [List.length_append, List.length_singleton] at hk
  rw [List.getD_eq_getElem?_getD, List.getD_eq_getElem?_getD]
  by_cases h : k < c.length
  · rw [if_pos h, List.getElem?_append_left h]
  · rw [if_neg h, List.getElem?_append_right (by omega), show k - c.length = 0 by omega]; rfl
section
variable {h0 w : AH} {P : Nat → Prog} {ad : Nat → Nat} {m : Nat}
theorem t_adv (R : RC h0 w P ad) (T : TkC w h0 m) {hh : AH} {z : Int} {s : Prs} (C : CsT w h0 hh m z s) (ns : ∀ i c, s = .ok (i, c) → tokS w i ≠ 0) : wp (f_X8_advance (some 9) hh) (fun _ h' => CsT w h0 h' m (z + 1) (pbd s pAdv)) := by
  have m160 := T.1
  have l := (R.sd C.1.1).l
  unfold f_X8_advance
  have key : ∀ i, i ≤ m → hI hh 9 7 = nI i → hI hh 9 6 = tokS w i → (tokS w i = 0 → CsT w h0 hh m (z + 1) (pbd s pAdv)) → (i < m → tokS w i ≠ 0 → CsT w h0 (wI (wI hh 9 7 (nI (i + 1))) 9 6 (tokS w (i + 1))) m (z + 1) (pbd s pAdv)) → wp (f_X8_advance (some 9) hh) (fun _ h' => CsT w h0 h' m (z + 1) (pbd s pAdv)) := by
    intro i hi e7 e6 k1 k2
    unfold f_X8_advance
    by_cases c0 : tokS w i = 0
    · have k1 := k1 c0
      by_cases g : (160 : Int32) ≤ nI i
      · simp (config := {decide := true, maxSteps := 5000000}) (disch := omega) only [↓reduceIte, ↓wp_some, ↓wp_none, wp_ite, ↓wp_cl, ↓wp_rz, ↓wp_nz, ↓wp_nzL, ↓wp_fI, ↓wp_fL, ↓wp_fR, ↓wp_pI, ↓wp_pL, ↓wp_pR, ↓wp_pZ, ↓wp_aI, ↓wp_aL, ↓wp_aR, ↓wp_bI, ↓wp_bL, ↓wp_bR, ↓wp_rO, ↓wp_cO, ↓wp_nO, ↓wp_iO, ↓wp_tbI, ↓wp_tbL, ↓wp_jn, q_okT, q_okA, q_gI, q_gL, q_gR, q_sI, q_sL, q_sR, q_SI, q_SL, q_SR, q_IL, q_IR, q_LI, q_LR, q_RI, q_RL, List.contains_cons, List.contains_nil, Nat.reduceBEq, Nat.reduceEqDiff, beq_self_eq_true, Bool.or_false, Bool.false_or, Bool.true_or, Bool.or_true, Bool.and_true, Bool.true_and, Bool.false_and, Bool.and_false, if_true, if_false, Bool.false_eq_true, true_and, and_true, false_and, and_false, and_self, not_true, not_false_iff, reduceCtorEq, forall_const, false_imp_iff, true_imp_iff, true_or, or_true, false_or, or_false, l.r0_0, l.r0_1, l.r0_2, l.r0_3, l.r0_4, l.r0_5, l.r1_1, l.r1_2, l.r1_4, l.r1_6, l.r1_7, l.r1_8, l.r8_0, l.r8_3, l.r8_4, l.r8_5, l.r8_6, l.r8_7, l.r8_8, l.r8_9, l.r9_1, l.r9_2, l.r9_3, l.r9_4, l.r9_9, l.r21_0, l.r21_1, l.r21_3, l.r21_4, l.r21_5, l.r21_6, l.r21_7, l.r21_8, l.r28_3, l.r28_4, l.r28_5, l.r28_6, l.r28_7, l.r28_9, l.r35_0, l.r35_1, l.r35_2, l.r35_3, l.r35_4, l.r35_5, l.r36_4, l.r38_4, l.r40_4, l.r42_4, l.r44_4, l.r46_4, l.s0, l.s1, l.s2, l.s3, l.s4, l.s5, l.s6, l.s7, l.s8, l.s9, l.s10, l.s11, l.s12, l.s13, l.s14, l.s15, l.s16, l.s17, l.s18, l.s19, l.s20, l.s21, l.s22, l.s23, l.s24, l.s25, l.s26, l.s27, l.s28, l.s29, l.s30, l.s31, l.s32, l.s33, l.s34, l.s35, l.s36, l.s37, l.s38, l.s39, l.s40, l.s41, l.s42, l.s43, l.s44, l.s45, l.s46, l.s47, l.s48, e7, e6, g]
        exact k1
      · simp (config := {decide := true, maxSteps := 5000000}) (disch := omega) only [↓reduceIte, ↓wp_some, ↓wp_none, wp_ite, ↓wp_cl, ↓wp_rz, ↓wp_nz, ↓wp_nzL, ↓wp_fI, ↓wp_fL, ↓wp_fR, ↓wp_pI, ↓wp_pL, ↓wp_pR, ↓wp_pZ, ↓wp_aI, ↓wp_aL, ↓wp_aR, ↓wp_bI, ↓wp_bL, ↓wp_bR, ↓wp_rO, ↓wp_cO, ↓wp_nO, ↓wp_iO, ↓wp_tbI, ↓wp_tbL, ↓wp_jn, q_okT, q_okA, q_gI, q_gL, q_gR, q_sI, q_sL, q_sR, q_SI, q_SL, q_SR, q_IL, q_IR, q_LI, q_LR, q_RI, q_RL, List.contains_cons, List.contains_nil, Nat.reduceBEq, Nat.reduceEqDiff, beq_self_eq_true, Bool.or_false, Bool.false_or, Bool.true_or, Bool.or_true, Bool.and_true, Bool.true_and, Bool.false_and, Bool.and_false, if_true, if_false, Bool.false_eq_true, true_and, and_true, false_and, and_false, and_self, not_true, not_false_iff, reduceCtorEq, forall_const, false_imp_iff, true_imp_iff, true_or, or_true, false_or, or_false, l.r0_0, l.r0_1, l.r0_2, l.r0_3, l.r0_4, l.r0_5, l.r1_1, l.r1_2, l.r1_4, l.r1_6, l.r1_7, l.r1_8, l.r8_0, l.r8_3, l.r8_4, l.r8_5, l.r8_6, l.r8_7, l.r8_8, l.r8_9, l.r9_1, l.r9_2, l.r9_3, l.r9_4, l.r9_9, l.r21_0, l.r21_1, l.r21_3, l.r21_4, l.r21_5, l.r21_6, l.r21_7, l.r21_8, l.r28_3, l.r28_4, l.r28_5, l.r28_6, l.r28_7, l.r28_9, l.r35_0, l.r35_1, l.r35_2, l.r35_3, l.r35_4, l.r35_5, l.r36_4, l.r38_4, l.r40_4, l.r42_4, l.r44_4, l.r46_4, l.s0, l.s1, l.s2, l.s3, l.s4, l.s5, l.s6, l.s7, l.s8, l.s9, l.s10, l.s11, l.s12, l.s13, l.s14, l.s15, l.s16, l.s17, l.s18, l.s19, l.s20, l.s21, l.s22, l.s23, l.s24, l.s25, l.s26, l.s27, l.s28, l.s29, l.s30, l.s31, l.s32, l.s33, l.s34, l.s35, l.s36, l.s37, l.s38, l.s39, l.s40, l.s41, l.s42, l.s43, l.s44, l.s45, l.s46, l.s47, l.s48, e7, e6, g, eq_true c0]
        exact k1
    · have im := T.lt hi c0
      have k2 := k2 im c0
      have g : ¬ (160 : Int32) ≤ nI i := by rw [show (160 : Int32) = nI 160 from rfl, nI_leI (by omega) (by omega)]; omega
      have e1 : nI i + 1 = nI (i + 1) := nI_add _ 1
      have ci : (nI (i + 1)).toNatClampNeg = i + 1 := nI_clamp (by omega)
      have e11 : hI hh 11 (i + 1) = tokS w (i + 1) := by rw [C.1.2.1 11 (by decide) (by decide)]; exact T.s (by omega)
      simp (config := {decide := true, maxSteps := 5000000}) (disch := omega) only [↓reduceIte, ↓wp_some, ↓wp_none, wp_ite, ↓wp_cl, ↓wp_rz, ↓wp_nz, ↓wp_nzL, ↓wp_fI, ↓wp_fL, ↓wp_fR, ↓wp_pI, ↓wp_pL, ↓wp_pR, ↓wp_pZ, ↓wp_aI, ↓wp_aL, ↓wp_aR, ↓wp_bI, ↓wp_bL, ↓wp_bR, ↓wp_rO, ↓wp_cO, ↓wp_nO, ↓wp_iO, ↓wp_tbI, ↓wp_tbL, ↓wp_jn, q_okT, q_okA, q_gI, q_gL, q_gR, q_sI, q_sL, q_sR, q_SI, q_SL, q_SR, q_IL, q_IR, q_LI, q_LR, q_RI, q_RL, List.contains_cons, List.contains_nil, Nat.reduceBEq, Nat.reduceEqDiff, beq_self_eq_true, Bool.or_false, Bool.false_or, Bool.true_or, Bool.or_true, Bool.and_true, Bool.true_and, Bool.false_and, Bool.and_false, if_true, if_false, Bool.false_eq_true, true_and, and_true, false_and, and_false, and_self, not_true, not_false_iff, reduceCtorEq, forall_const, false_imp_iff, true_imp_iff, true_or, or_true, false_or, or_false, l.r0_0, l.r0_1, l.r0_2, l.r0_3, l.r0_4, l.r0_5, l.r1_1, l.r1_2, l.r1_4, l.r1_6, l.r1_7, l.r1_8, l.r8_0, l.r8_3, l.r8_4, l.r8_5, l.r8_6, l.r8_7, l.r8_8, l.r8_9, l.r9_1, l.r9_2, l.r9_3, l.r9_4, l.r9_9, l.r21_0, l.r21_1, l.r21_3, l.r21_4, l.r21_5, l.r21_6, l.r21_7, l.r21_8, l.r28_3, l.r28_4, l.r28_5, l.r28_6, l.r28_7, l.r28_9, l.r35_0, l.r35_1, l.r35_2, l.r35_3, l.r35_4, l.r35_5, l.r36_4, l.r38_4, l.r40_4, l.r42_4, l.r44_4, l.r46_4, l.s0, l.s1, l.s2, l.s3, l.s4, l.s5, l.s6, l.s7, l.s8, l.s9, l.s10, l.s11, l.s12, l.s13, l.s14, l.s15, l.s16, l.s17, l.s18, l.s19, l.s20, l.s21, l.s22, l.s23, l.s24, l.s25, l.s26, l.s27, l.s28, l.s29, l.s30, l.s31, l.s32, l.s33, l.s34, l.s35, l.s36, l.s37, l.s38, l.s39, l.s40, l.s41, l.s42, l.s43, l.s44, l.s45, l.s46, l.s47, l.s48, e7, e6, g, c0, e1, q_at, q_ne, ci, e11, nI_neg, dle, decide_false, Bool.not_false]
      exact k2
  cases s with
  | error p =>
    obtain ⟨Q, hp, e8, i, n, hi, hn, e7, e6, e10⟩ := C
    refine key i hi e7 e6 (fun _ => ⟨Q, hp, e8, i, n, hi, hn, e7, e6, e10⟩) (fun im _ => ?_)
    refine ⟨(Q.w (by omega) _).w (by omega) _, hp, ?_, i + 1, n, by omega, hn, ?_, q_at, ?_⟩
    · rw [q_atne (by decide), q_atne (by decide)]; exact e8
    · rw [q_atne (by decide), q_at]
    · rw [q_atne (by decide), q_atne (by decide)]; exact e10
  | ok x =>
    obtain ⟨i, c⟩ := x
    obtain ⟨Q, hi, hz, e8, e7, e6, e10, ec⟩ := C
    refine key i hi e7 e6 (fun e => absurd e (ns i c rfl)) (fun im _ => ?_)
    rw [pbd_oo (show pAdv i = .ok (i + 1, []) from rfl), List.append_nil]
    refine ⟨(Q.w (by omega) _).w (by omega) _, by omega, by omega, ?_, ?_, q_at, ?_, ?_⟩
    · rw [q_atne (by decide), q_atne (by decide)]; exact e8
    · rw [q_atne (by decide), q_at]
    · rw [q_atne (by decide), q_atne (by decide)]; exact e10
    · rw [q_ne (by decide), q_ne (by decide)]; exact ec
/-- what is laid: any number behind a fault -/
theorem t_emit (R : RC h0 w P ad) {hh : AH} {z : Int} {s : Prs} (C : CsT w h0 hh m z s) (e : Ins) (v : Int32) (he : (∀ p, s ≠ .error p) → v = encI e) (hc : ∀ i c, s = .ok (i, c) → c.length ≤ 160) : wp (f_X8_emit (some 9) v hh) (fun _ h' => CsT w h0 h' m (z - 1) (pbd s (pLay e))) := by
  have l := (R.sd C.1.1).l
  cases s with
  | error p =>
    obtain ⟨Q, hp, e8, i, n, hi, hn, e7, e6, e10⟩ := C
    unfold f_X8_emit
    by_cases c0 : n = 161
    · have g : (161 : Int32) ≤ nI n := by rw [c0]; decide
      simp (config := {decide := true, maxSteps := 5000000}) (disch := omega) only [↓reduceIte, ↓wp_some, ↓wp_none, wp_ite, ↓wp_cl, ↓wp_rz, ↓wp_nz, ↓wp_nzL, ↓wp_fI, ↓wp_fL, ↓wp_fR, ↓wp_pI, ↓wp_pL, ↓wp_pR, ↓wp_pZ, ↓wp_aI, ↓wp_aL, ↓wp_aR, ↓wp_bI, ↓wp_bL, ↓wp_bR, ↓wp_rO, ↓wp_cO, ↓wp_nO, ↓wp_iO, ↓wp_tbI, ↓wp_tbL, ↓wp_jn, q_okT, q_okA, q_gI, q_gL, q_gR, q_sI, q_sL, q_sR, q_SI, q_SL, q_SR, q_IL, q_IR, q_LI, q_LR, q_RI, q_RL, List.contains_cons, List.contains_nil, Nat.reduceBEq, Nat.reduceEqDiff, beq_self_eq_true, Bool.or_false, Bool.false_or, Bool.true_or, Bool.or_true, Bool.and_true, Bool.true_and, Bool.false_and, Bool.and_false, if_true, if_false, Bool.false_eq_true, true_and, and_true, false_and, and_false, and_self, not_true, not_false_iff, reduceCtorEq, forall_const, false_imp_iff, true_imp_iff, true_or, or_true, false_or, or_false, l.r0_0, l.r0_1, l.r0_2, l.r0_3, l.r0_4, l.r0_5, l.r1_1, l.r1_2, l.r1_4, l.r1_6, l.r1_7, l.r1_8, l.r8_0, l.r8_3, l.r8_4, l.r8_5, l.r8_6, l.r8_7, l.r8_8, l.r8_9, l.r9_1, l.r9_2, l.r9_3, l.r9_4, l.r9_9, l.r21_0, l.r21_1, l.r21_3, l.r21_4, l.r21_5, l.r21_6, l.r21_7, l.r21_8, l.r28_3, l.r28_4, l.r28_5, l.r28_6, l.r28_7, l.r28_9, l.r35_0, l.r35_1, l.r35_2, l.r35_3, l.r35_4, l.r35_5, l.r36_4, l.r38_4, l.r40_4, l.r42_4, l.r44_4, l.r46_4, l.s0, l.s1, l.s2, l.s3, l.s4, l.s5, l.s6, l.s7, l.s8, l.s9, l.s10, l.s11, l.s12, l.s13, l.s14, l.s15, l.s16, l.s17, l.s18, l.s19, l.s20, l.s21, l.s22, l.s23, l.s24, l.s25, l.s26, l.s27, l.s28, l.s29, l.s30, l.s31, l.s32, l.s33, l.s34, l.s35, l.s36, l.s37, l.s38, l.s39, l.s40, l.s41, l.s42, l.s43, l.s44, l.s45, l.s46, l.s47, l.s48, e10, g]
      exact ⟨Q, hp, e8, i, n, hi, hn, e7, e6, e10⟩
    · have g : ¬ (161 : Int32) ≤ nI n := by rw [show (161 : Int32) = nI 161 from rfl, nI_leI (by omega) (by omega)]; omega
      have e1 : nI n + 1 = nI (n + 1) := nI_add _ 1
      have ci : (nI n).toNatClampNeg = n := nI_clamp (by omega)
      simp (config := {decide := true, maxSteps := 5000000}) (disch := omega) only [↓reduceIte, ↓wp_some, ↓wp_none, wp_ite, ↓wp_cl, ↓wp_rz, ↓wp_nz, ↓wp_nzL, ↓wp_fI, ↓wp_fL, ↓wp_fR, ↓wp_pI, ↓wp_pL, ↓wp_pR, ↓wp_pZ, ↓wp_aI, ↓wp_aL, ↓wp_aR, ↓wp_bI, ↓wp_bL, ↓wp_bR, ↓wp_rO, ↓wp_cO, ↓wp_nO, ↓wp_iO, ↓wp_tbI, ↓wp_tbL, ↓wp_jn, q_okT, q_okA, q_gI, q_gL, q_gR, q_sI, q_sL, q_sR, q_SI, q_SL, q_SR, q_IL, q_IR, q_LI, q_LR, q_RI, q_RL, List.contains_cons, List.contains_nil, Nat.reduceBEq, Nat.reduceEqDiff, beq_self_eq_true, Bool.or_false, Bool.false_or, Bool.true_or, Bool.or_true, Bool.and_true, Bool.true_and, Bool.false_and, Bool.and_false, if_true, if_false, Bool.false_eq_true, true_and, and_true, false_and, and_false, and_self, not_true, not_false_iff, reduceCtorEq, forall_const, false_imp_iff, true_imp_iff, true_or, or_true, false_or, or_false, l.r0_0, l.r0_1, l.r0_2, l.r0_3, l.r0_4, l.r0_5, l.r1_1, l.r1_2, l.r1_4, l.r1_6, l.r1_7, l.r1_8, l.r8_0, l.r8_3, l.r8_4, l.r8_5, l.r8_6, l.r8_7, l.r8_8, l.r8_9, l.r9_1, l.r9_2, l.r9_3, l.r9_4, l.r9_9, l.r21_0, l.r21_1, l.r21_3, l.r21_4, l.r21_5, l.r21_6, l.r21_7, l.r21_8, l.r28_3, l.r28_4, l.r28_5, l.r28_6, l.r28_7, l.r28_9, l.r35_0, l.r35_1, l.r35_2, l.r35_3, l.r35_4, l.r35_5, l.r36_4, l.r38_4, l.r40_4, l.r42_4, l.r44_4, l.r46_4, l.s0, l.s1, l.s2, l.s3, l.s4, l.s5, l.s6, l.s7, l.s8, l.s9, l.s10, l.s11, l.s12, l.s13, l.s14, l.s15, l.s16, l.s17, l.s18, l.s19, l.s20, l.s21, l.s22, l.s23, l.s24, l.s25, l.s26, l.s27, l.s28, l.s29, l.s30, l.s31, l.s32, l.s33, l.s34, l.s35, l.s36, l.s37, l.s38, l.s39, l.s40, l.s41, l.s42, l.s43, l.s44, l.s45, l.s46, l.s47, l.s48, e10, g, e1, q_at, q_ne, ci, nI_neg, dle, decide_false, Bool.not_false]
      refine ⟨(Q.c _ _).w (by omega) _, hp, ?_, i, n + 1, hi, by omega, ?_, ?_, q_at⟩
      · rw [q_atne (by decide), q_ne (by decide)]; exact e8
      · rw [q_atne (by decide), q_ne (by decide)]; exact e7
      · rw [q_atne (by decide), q_ne (by decide)]; exact e6
  | ok x =>
    obtain ⟨i, c⟩ := x
    obtain ⟨Q, hi, hz, e8, e7, e6, e10, ec⟩ := C
    have cl := hc i c rfl
    have hv := he (fun p q => by cases q)
    unfold f_X8_emit
    have g : ¬ (161 : Int32) ≤ nI c.length := by rw [show (161 : Int32) = nI 161 from rfl, nI_leI (by omega) (by omega)]; omega
    have e1 : nI c.length + 1 = nI (c.length + 1) := nI_add _ 1
    have ci : (nI c.length).toNatClampNeg = c.length := nI_clamp (by omega)
    simp (config := {decide := true, maxSteps := 5000000}) (disch := omega) only [↓reduceIte, ↓wp_some, ↓wp_none, wp_ite, ↓wp_cl, ↓wp_rz, ↓wp_nz, ↓wp_nzL, ↓wp_fI, ↓wp_fL, ↓wp_fR, ↓wp_pI, ↓wp_pL, ↓wp_pR, ↓wp_pZ, ↓wp_aI, ↓wp_aL, ↓wp_aR, ↓wp_bI, ↓wp_bL, ↓wp_bR, ↓wp_rO, ↓wp_cO, ↓wp_nO, ↓wp_iO, ↓wp_tbI, ↓wp_tbL, ↓wp_jn, q_okT, q_okA, q_gI, q_gL, q_gR, q_sI, q_sL, q_sR, q_SI, q_SL, q_SR, q_IL, q_IR, q_LI, q_LR, q_RI, q_RL, List.contains_cons, List.contains_nil, Nat.reduceBEq, Nat.reduceEqDiff, beq_self_eq_true, Bool.or_false, Bool.false_or, Bool.true_or, Bool.or_true, Bool.and_true, Bool.true_and, Bool.false_and, Bool.and_false, if_true, if_false, Bool.false_eq_true, true_and, and_true, false_and, and_false, and_self, not_true, not_false_iff, reduceCtorEq, forall_const, false_imp_iff, true_imp_iff, true_or, or_true, false_or, or_false, l.r0_0, l.r0_1, l.r0_2, l.r0_3, l.r0_4, l.r0_5, l.r1_1, l.r1_2, l.r1_4, l.r1_6, l.r1_7, l.r1_8, l.r8_0, l.r8_3, l.r8_4, l.r8_5, l.r8_6, l.r8_7, l.r8_8, l.r8_9, l.r9_1, l.r9_2, l.r9_3, l.r9_4, l.r9_9, l.r21_0, l.r21_1, l.r21_3, l.r21_4, l.r21_5, l.r21_6, l.r21_7, l.r21_8, l.r28_3, l.r28_4, l.r28_5, l.r28_6, l.r28_7, l.r28_9, l.r35_0, l.r35_1, l.r35_2, l.r35_3, l.r35_4, l.r35_5, l.r36_4, l.r38_4, l.r40_4, l.r42_4, l.r44_4, l.r46_4, l.s0, l.s1, l.s2, l.s3, l.s4, l.s5, l.s6, l.s7, l.s8, l.s9, l.s10, l.s11, l.s12, l.s13, l.s14, l.s15, l.s16, l.s17, l.s18, l.s19, l.s20, l.s21, l.s22, l.s23, l.s24, l.s25, l.s26, l.s27, l.s28, l.s29, l.s30, l.s31, l.s32, l.s33, l.s34, l.s35, l.s36, l.s37, l.s38, l.s39, l.s40, l.s41, l.s42, l.s43, l.s44, l.s45, l.s46, l.s47, l.s48, e10, g, e1, q_at, q_ne, ci, nI_neg, dle, decide_false, Bool.not_false]
    rw [pbd_oo (show pLay e i = .ok (i, [e]) from rfl)]
    have ln : (c ++ [e]).length = c.length + 1 := by rw [List.length_append, List.length_singleton]
    refine ⟨(Q.c _ _).w (by omega) _, hi, by rw [ln]; omega, ?_, ?_, ?_, by rw [ln]; exact q_at, ?_⟩
    · rw [q_atne (by decide), q_ne (by decide)]; exact e8
    · rw [q_atne (by decide), q_ne (by decide)]; exact e7
    · rw [q_atne (by decide), q_ne (by decide)]; exact e6
    · intro k hk
      rw [q_ne (by decide), q_II, getD_snoc c e _ hk]
      rw [ln] at hk
      by_cases q : k = c.length
      · rw [if_pos ⟨rfl, q⟩, if_neg (by omega)]; exact hv
      · rw [if_neg (fun y => q y.2), if_pos (by omega)]; exact ec k (by omega)
/-- something laid behind a token of its own -/
theorem t_emit1 (R : RC h0 w P ad) (T : TkC w h0 m) {hh : AH} {z : Int} {s : Prs} (C : CsT w h0 hh m (z + 1) s) (hz : 0 ≤ z) (e : Ins) : wp (f_X8_emit (some 9) (encI e) hh) (fun _ h' => CsT w h0 h' m z (pbd s (pLay e))) := by
  have := t_emit R C e (encI e) (fun _ => rfl) (fun i c q => by
    rw [q] at C
    have h1 := C.2.1
    have h2 := C.2.2.1
    have := T.1
    omega)
  rw [show z + 1 - 1 = z by omega] at this
  exact this
theorem t_blame (R : RC h0 w P ad) (T : TkC w h0 m) {hh : AH} {z : Int} {s : Prs} (C : CsT w h0 hh m z s) (hz : 0 ≤ z) (y : Int) : wp (f_X8_blame (some 9) hh) (fun _ h' => CsT w h0 h' m y (pbd s pErr)) := by
  have m160 := T.1
  have l160 := T.2.2.2.2.2
  have l := (R.sd C.1.1).l
  unfold f_X8_blame
  cases s with
  | error p =>
    obtain ⟨Q, hp, e8, i, n, hi, hn, e7, e6, e10⟩ := C
    have pl := (T.p hp).2
    have g : (0 : Int32) ≤ nI (plc w p) := nI_pos' (by omega)
    simp (config := {decide := true, maxSteps := 5000000}) (disch := omega) only [↓reduceIte, ↓wp_some, ↓wp_none, wp_ite, ↓wp_cl, ↓wp_rz, ↓wp_nz, ↓wp_nzL, ↓wp_fI, ↓wp_fL, ↓wp_fR, ↓wp_pI, ↓wp_pL, ↓wp_pR, ↓wp_pZ, ↓wp_aI, ↓wp_aL, ↓wp_aR, ↓wp_bI, ↓wp_bL, ↓wp_bR, ↓wp_rO, ↓wp_cO, ↓wp_nO, ↓wp_iO, ↓wp_tbI, ↓wp_tbL, ↓wp_jn, q_okT, q_okA, q_gI, q_gL, q_gR, q_sI, q_sL, q_sR, q_SI, q_SL, q_SR, q_IL, q_IR, q_LI, q_LR, q_RI, q_RL, List.contains_cons, List.contains_nil, Nat.reduceBEq, Nat.reduceEqDiff, beq_self_eq_true, Bool.or_false, Bool.false_or, Bool.true_or, Bool.or_true, Bool.and_true, Bool.true_and, Bool.false_and, Bool.and_false, if_true, if_false, Bool.false_eq_true, true_and, and_true, false_and, and_false, and_self, not_true, not_false_iff, reduceCtorEq, forall_const, false_imp_iff, true_imp_iff, true_or, or_true, false_or, or_false, l.r0_0, l.r0_1, l.r0_2, l.r0_3, l.r0_4, l.r0_5, l.r1_1, l.r1_2, l.r1_4, l.r1_6, l.r1_7, l.r1_8, l.r8_0, l.r8_3, l.r8_4, l.r8_5, l.r8_6, l.r8_7, l.r8_8, l.r8_9, l.r9_1, l.r9_2, l.r9_3, l.r9_4, l.r9_9, l.r21_0, l.r21_1, l.r21_3, l.r21_4, l.r21_5, l.r21_6, l.r21_7, l.r21_8, l.r28_3, l.r28_4, l.r28_5, l.r28_6, l.r28_7, l.r28_9, l.r35_0, l.r35_1, l.r35_2, l.r35_3, l.r35_4, l.r35_5, l.r36_4, l.r38_4, l.r40_4, l.r42_4, l.r44_4, l.r46_4, l.s0, l.s1, l.s2, l.s3, l.s4, l.s5, l.s6, l.s7, l.s8, l.s9, l.s10, l.s11, l.s12, l.s13, l.s14, l.s15, l.s16, l.s17, l.s18, l.s19, l.s20, l.s21, l.s22, l.s23, l.s24, l.s25, l.s26, l.s27, l.s28, l.s29, l.s30, l.s31, l.s32, l.s33, l.s34, l.s35, l.s36, l.s37, l.s38, l.s39, l.s40, l.s41, l.s42, l.s43, l.s44, l.s45, l.s46, l.s47, l.s48, e8, g]
    exact ⟨Q, hp, e8, i, n, hi, hn, e7, e6, e10⟩
  | ok x =>
    obtain ⟨i, c⟩ := x
    obtain ⟨Q, hi, hz, e8, e7, e6, e10, ec⟩ := C
    have g : ¬ (0 : Int32) ≤ -1 := by decide
    have ci : (nI i).toNatClampNeg = i := nI_clamp (by omega)
    have e12 : hI hh 12 i = nI (plc w i) := by rw [Q.2.1 12 (by decide) (by decide)]; exact (T.p hi).1
    simp (config := {decide := true, maxSteps := 5000000}) (disch := omega) only [↓reduceIte, ↓wp_some, ↓wp_none, wp_ite, ↓wp_cl, ↓wp_rz, ↓wp_nz, ↓wp_nzL, ↓wp_fI, ↓wp_fL, ↓wp_fR, ↓wp_pI, ↓wp_pL, ↓wp_pR, ↓wp_pZ, ↓wp_aI, ↓wp_aL, ↓wp_aR, ↓wp_bI, ↓wp_bL, ↓wp_bR, ↓wp_rO, ↓wp_cO, ↓wp_nO, ↓wp_iO, ↓wp_tbI, ↓wp_tbL, ↓wp_jn, q_okT, q_okA, q_gI, q_gL, q_gR, q_sI, q_sL, q_sR, q_SI, q_SL, q_SR, q_IL, q_IR, q_LI, q_LR, q_RI, q_RL, List.contains_cons, List.contains_nil, Nat.reduceBEq, Nat.reduceEqDiff, beq_self_eq_true, Bool.or_false, Bool.false_or, Bool.true_or, Bool.or_true, Bool.and_true, Bool.true_and, Bool.false_and, Bool.and_false, if_true, if_false, Bool.false_eq_true, true_and, and_true, false_and, and_false, and_self, not_true, not_false_iff, reduceCtorEq, forall_const, false_imp_iff, true_imp_iff, true_or, or_true, false_or, or_false, l.r0_0, l.r0_1, l.r0_2, l.r0_3, l.r0_4, l.r0_5, l.r1_1, l.r1_2, l.r1_4, l.r1_6, l.r1_7, l.r1_8, l.r8_0, l.r8_3, l.r8_4, l.r8_5, l.r8_6, l.r8_7, l.r8_8, l.r8_9, l.r9_1, l.r9_2, l.r9_3, l.r9_4, l.r9_9, l.r21_0, l.r21_1, l.r21_3, l.r21_4, l.r21_5, l.r21_6, l.r21_7, l.r21_8, l.r28_3, l.r28_4, l.r28_5, l.r28_6, l.r28_7, l.r28_9, l.r35_0, l.r35_1, l.r35_2, l.r35_3, l.r35_4, l.r35_5, l.r36_4, l.r38_4, l.r40_4, l.r42_4, l.r44_4, l.r46_4, l.s0, l.s1, l.s2, l.s3, l.s4, l.s5, l.s6, l.s7, l.s8, l.s9, l.s10, l.s11, l.s12, l.s13, l.s14, l.s15, l.s16, l.s17, l.s18, l.s19, l.s20, l.s21, l.s22, l.s23, l.s24, l.s25, l.s26, l.s27, l.s28, l.s29, l.s30, l.s31, l.s32, l.s33, l.s34, l.s35, l.s36, l.s37, l.s38, l.s39, l.s40, l.s41, l.s42, l.s43, l.s44, l.s45, l.s46, l.s47, l.s48, e8, e7, g, ci, e12, nI_neg, dle, decide_false, Bool.not_false]
    rw [pbd_oe (show pErr i = .error i from rfl)]
    refine ⟨Q.w (by omega) _, hi, q_at, i, c.length, hi, by omega, ?_, ?_, ?_⟩
    · rw [q_atne (by decide)]; exact e7
    · rw [q_atne (by decide)]; exact e6
    · rw [q_atne (by decide)]; exact e10
/-- a fault, or none -/
theorem CsT.f {hh : AH} {z : Int} {s : Prs} (T : TkC w h0 m) (C : CsT w h0 hh m z s) : (∃ p, s = .error p ∧ p ≤ m ∧ 0 ≤ hI hh 9 8 ∧ ¬ hI hh 9 8 < 0 ∧ ∃ i, i ≤ m ∧ hI hh 9 7 = nI i ∧ hI hh 9 6 = tokS w i) ∨ (∃ i c, s = .ok (i, c) ∧ i ≤ m ∧ hI hh 9 8 = -1 ∧ hI hh 9 7 = nI i ∧ hI hh 9 6 = tokS w i) := by
  cases s with
  | error p =>
    obtain ⟨Q, hp, e8, i, n, hi, hn, e7, e6, e10⟩ := C
    have pl := (T.p hp).2
    have l160 := T.2.2.2.2.2
    exact Or.inl ⟨p, rfl, hp, by rw [e8]; exact nI_pos' (by omega), by rw [e8]; exact nI_pos (by omega), i, hi, e7, e6⟩
  | ok x =>
    obtain ⟨i, c⟩ := x
    obtain ⟨Q, hi, hz, e8, e7, e6, e10, ec⟩ := C
    exact Or.inr ⟨i, c, rfl, hi, e8, e7, e6⟩
theorem t_expect (R : RC h0 w P ad) (T : TkC w h0 m) {hh : AH} {z : Int} {s : Prs} (C : CsT w h0 hh m z s) (hz : 0 ≤ z) {sg : Int32} (hs : sg ≠ 0) : wp (f_X8_expect (some 9) sg hh) (fun _ h' => CsT w h0 h' m (z + 1) (pbd s (pExp (tokS w) sg))) := by
  have l := (R.sd C.1.1).l
  have bl := t_blame R T C hz (z + 1)
  unfold f_X8_expect
  rcases C.f T with ⟨p, rfl, hp, g8, -, i, hi, e7, e6⟩ | ⟨i, c, rfl, hi, e8, e7, e6⟩
  · by_cases q : tokS w i = sg
    · simp (config := {decide := true, maxSteps := 5000000}) (disch := omega) only [↓reduceIte, ↓wp_some, ↓wp_none, wp_ite, ↓wp_cl, ↓wp_rz, ↓wp_nz, ↓wp_nzL, ↓wp_fI, ↓wp_fL, ↓wp_fR, ↓wp_pI, ↓wp_pL, ↓wp_pR, ↓wp_pZ, ↓wp_aI, ↓wp_aL, ↓wp_aR, ↓wp_bI, ↓wp_bL, ↓wp_bR, ↓wp_rO, ↓wp_cO, ↓wp_nO, ↓wp_iO, ↓wp_tbI, ↓wp_tbL, ↓wp_jn, q_okT, q_okA, q_gI, q_gL, q_gR, q_sI, q_sL, q_sR, q_SI, q_SL, q_SR, q_IL, q_IR, q_LI, q_LR, q_RI, q_RL, List.contains_cons, List.contains_nil, Nat.reduceBEq, Nat.reduceEqDiff, beq_self_eq_true, Bool.or_false, Bool.false_or, Bool.true_or, Bool.or_true, Bool.and_true, Bool.true_and, Bool.false_and, Bool.and_false, if_true, if_false, Bool.false_eq_true, true_and, and_true, false_and, and_false, and_self, not_true, not_false_iff, reduceCtorEq, forall_const, false_imp_iff, true_imp_iff, true_or, or_true, false_or, or_false, l.r0_0, l.r0_1, l.r0_2, l.r0_3, l.r0_4, l.r0_5, l.r1_1, l.r1_2, l.r1_4, l.r1_6, l.r1_7, l.r1_8, l.r8_0, l.r8_3, l.r8_4, l.r8_5, l.r8_6, l.r8_7, l.r8_8, l.r8_9, l.r9_1, l.r9_2, l.r9_3, l.r9_4, l.r9_9, l.r21_0, l.r21_1, l.r21_3, l.r21_4, l.r21_5, l.r21_6, l.r21_7, l.r21_8, l.r28_3, l.r28_4, l.r28_5, l.r28_6, l.r28_7, l.r28_9, l.r35_0, l.r35_1, l.r35_2, l.r35_3, l.r35_4, l.r35_5, l.r36_4, l.r38_4, l.r40_4, l.r42_4, l.r44_4, l.r46_4, l.s0, l.s1, l.s2, l.s3, l.s4, l.s5, l.s6, l.s7, l.s8, l.s9, l.s10, l.s11, l.s12, l.s13, l.s14, l.s15, l.s16, l.s17, l.s18, l.s19, l.s20, l.s21, l.s22, l.s23, l.s24, l.s25, l.s26, l.s27, l.s28, l.s29, l.s30, l.s31, l.s32, l.s33, l.s34, l.s35, l.s36, l.s37, l.s38, l.s39, l.s40, l.s41, l.s42, l.s43, l.s44, l.s45, l.s46, l.s47, l.s48, e6, eq_true q, g8]
      exact bl
    · simp (config := {decide := true, maxSteps := 5000000}) (disch := omega) only [↓reduceIte, ↓wp_some, ↓wp_none, wp_ite, ↓wp_cl, ↓wp_rz, ↓wp_nz, ↓wp_nzL, ↓wp_fI, ↓wp_fL, ↓wp_fR, ↓wp_pI, ↓wp_pL, ↓wp_pR, ↓wp_pZ, ↓wp_aI, ↓wp_aL, ↓wp_aR, ↓wp_bI, ↓wp_bL, ↓wp_bR, ↓wp_rO, ↓wp_cO, ↓wp_nO, ↓wp_iO, ↓wp_tbI, ↓wp_tbL, ↓wp_jn, q_okT, q_okA, q_gI, q_gL, q_gR, q_sI, q_sL, q_sR, q_SI, q_SL, q_SR, q_IL, q_IR, q_LI, q_LR, q_RI, q_RL, List.contains_cons, List.contains_nil, Nat.reduceBEq, Nat.reduceEqDiff, beq_self_eq_true, Bool.or_false, Bool.false_or, Bool.true_or, Bool.or_true, Bool.and_true, Bool.true_and, Bool.false_and, Bool.and_false, if_true, if_false, Bool.false_eq_true, true_and, and_true, false_and, and_false, and_self, not_true, not_false_iff, reduceCtorEq, forall_const, false_imp_iff, true_imp_iff, true_or, or_true, false_or, or_false, l.r0_0, l.r0_1, l.r0_2, l.r0_3, l.r0_4, l.r0_5, l.r1_1, l.r1_2, l.r1_4, l.r1_6, l.r1_7, l.r1_8, l.r8_0, l.r8_3, l.r8_4, l.r8_5, l.r8_6, l.r8_7, l.r8_8, l.r8_9, l.r9_1, l.r9_2, l.r9_3, l.r9_4, l.r9_9, l.r21_0, l.r21_1, l.r21_3, l.r21_4, l.r21_5, l.r21_6, l.r21_7, l.r21_8, l.r28_3, l.r28_4, l.r28_5, l.r28_6, l.r28_7, l.r28_9, l.r35_0, l.r35_1, l.r35_2, l.r35_3, l.r35_4, l.r35_5, l.r36_4, l.r38_4, l.r40_4, l.r42_4, l.r44_4, l.r46_4, l.s0, l.s1, l.s2, l.s3, l.s4, l.s5, l.s6, l.s7, l.s8, l.s9, l.s10, l.s11, l.s12, l.s13, l.s14, l.s15, l.s16, l.s17, l.s18, l.s19, l.s20, l.s21, l.s22, l.s23, l.s24, l.s25, l.s26, l.s27, l.s28, l.s29, l.s30, l.s31, l.s32, l.s33, l.s34, l.s35, l.s36, l.s37, l.s38, l.s39, l.s40, l.s41, l.s42, l.s43, l.s44, l.s45, l.s46, l.s47, l.s48, e6, q]
      exact bl
  · have g8 : ¬ (0 : Int32) ≤ -1 := by decide
    by_cases q : tokS w i = sg
    · have ad := t_adv R T C (fun j d e => by cases e; rw [q]; exact hs)
      rw [pbd_cong (g := pAdv) (fun j d e => by cases e; unfold pExp; rw [if_pos q])]
      simp (config := {decide := true, maxSteps := 5000000}) (disch := omega) only [↓reduceIte, ↓wp_some, ↓wp_none, wp_ite, ↓wp_cl, ↓wp_rz, ↓wp_nz, ↓wp_nzL, ↓wp_fI, ↓wp_fL, ↓wp_fR, ↓wp_pI, ↓wp_pL, ↓wp_pR, ↓wp_pZ, ↓wp_aI, ↓wp_aL, ↓wp_aR, ↓wp_bI, ↓wp_bL, ↓wp_bR, ↓wp_rO, ↓wp_cO, ↓wp_nO, ↓wp_iO, ↓wp_tbI, ↓wp_tbL, ↓wp_jn, q_okT, q_okA, q_gI, q_gL, q_gR, q_sI, q_sL, q_sR, q_SI, q_SL, q_SR, q_IL, q_IR, q_LI, q_LR, q_RI, q_RL, List.contains_cons, List.contains_nil, Nat.reduceBEq, Nat.reduceEqDiff, beq_self_eq_true, Bool.or_false, Bool.false_or, Bool.true_or, Bool.or_true, Bool.and_true, Bool.true_and, Bool.false_and, Bool.and_false, if_true, if_false, Bool.false_eq_true, true_and, and_true, false_and, and_false, and_self, not_true, not_false_iff, reduceCtorEq, forall_const, false_imp_iff, true_imp_iff, true_or, or_true, false_or, or_false, l.r0_0, l.r0_1, l.r0_2, l.r0_3, l.r0_4, l.r0_5, l.r1_1, l.r1_2, l.r1_4, l.r1_6, l.r1_7, l.r1_8, l.r8_0, l.r8_3, l.r8_4, l.r8_5, l.r8_6, l.r8_7, l.r8_8, l.r8_9, l.r9_1, l.r9_2, l.r9_3, l.r9_4, l.r9_9, l.r21_0, l.r21_1, l.r21_3, l.r21_4, l.r21_5, l.r21_6, l.r21_7, l.r21_8, l.r28_3, l.r28_4, l.r28_5, l.r28_6, l.r28_7, l.r28_9, l.r35_0, l.r35_1, l.r35_2, l.r35_3, l.r35_4, l.r35_5, l.r36_4, l.r38_4, l.r40_4, l.r42_4, l.r44_4, l.r46_4, l.s0, l.s1, l.s2, l.s3, l.s4, l.s5, l.s6, l.s7, l.s8, l.s9, l.s10, l.s11, l.s12, l.s13, l.s14, l.s15, l.s16, l.s17, l.s18, l.s19, l.s20, l.s21, l.s22, l.s23, l.s24, l.s25, l.s26, l.s27, l.s28, l.s29, l.s30, l.s31, l.s32, l.s33, l.s34, l.s35, l.s36, l.s37, l.s38, l.s39, l.s40, l.s41, l.s42, l.s43, l.s44, l.s45, l.s46, l.s47, l.s48, e6, eq_true q, e8, g8]
      exact ad
    · rw [pbd_cong (g := pErr) (fun j d e => by cases e; unfold pExp; rw [if_neg q]; rfl)]
      simp (config := {decide := true, maxSteps := 5000000}) (disch := omega) only [↓reduceIte, ↓wp_some, ↓wp_none, wp_ite, ↓wp_cl, ↓wp_rz, ↓wp_nz, ↓wp_nzL, ↓wp_fI, ↓wp_fL, ↓wp_fR, ↓wp_pI, ↓wp_pL, ↓wp_pR, ↓wp_pZ, ↓wp_aI, ↓wp_aL, ↓wp_aR, ↓wp_bI, ↓wp_bL, ↓wp_bR, ↓wp_rO, ↓wp_cO, ↓wp_nO, ↓wp_iO, ↓wp_tbI, ↓wp_tbL, ↓wp_jn, q_okT, q_okA, q_gI, q_gL, q_gR, q_sI, q_sL, q_sR, q_SI, q_SL, q_SR, q_IL, q_IR, q_LI, q_LR, q_RI, q_RL, List.contains_cons, List.contains_nil, Nat.reduceBEq, Nat.reduceEqDiff, beq_self_eq_true, Bool.or_false, Bool.false_or, Bool.true_or, Bool.or_true, Bool.and_true, Bool.true_and, Bool.false_and, Bool.and_false, if_true, if_false, Bool.false_eq_true, true_and, and_true, false_and, and_false, and_self, not_true, not_false_iff, reduceCtorEq, forall_const, false_imp_iff, true_imp_iff, true_or, or_true, false_or, or_false, l.r0_0, l.r0_1, l.r0_2, l.r0_3, l.r0_4, l.r0_5, l.r1_1, l.r1_2, l.r1_4, l.r1_6, l.r1_7, l.r1_8, l.r8_0, l.r8_3, l.r8_4, l.r8_5, l.r8_6, l.r8_7, l.r8_8, l.r8_9, l.r9_1, l.r9_2, l.r9_3, l.r9_4, l.r9_9, l.r21_0, l.r21_1, l.r21_3, l.r21_4, l.r21_5, l.r21_6, l.r21_7, l.r21_8, l.r28_3, l.r28_4, l.r28_5, l.r28_6, l.r28_7, l.r28_9, l.r35_0, l.r35_1, l.r35_2, l.r35_3, l.r35_4, l.r35_5, l.r36_4, l.r38_4, l.r40_4, l.r42_4, l.r44_4, l.r46_4, l.s0, l.s1, l.s2, l.s3, l.s4, l.s5, l.s6, l.s7, l.s8, l.s9, l.s10, l.s11, l.s12, l.s13, l.s14, l.s15, l.s16, l.s17, l.s18, l.s19, l.s20, l.s21, l.s22, l.s23, l.s24, l.s25, l.s26, l.s27, l.s28, l.s29, l.s30, l.s31, l.s32, l.s33, l.s34, l.s35, l.s36, l.s37, l.s38, l.s39, l.s40, l.s41, l.s42, l.s43, l.s44, l.s45, l.s46, l.s47, l.s48, e6, q]
      exact bl
/-- one more is opened, or it is a fault -/
theorem t_mayOpen (R : RC h0 w P ad) (T : TkC w h0 m) {hh : AH} {z : Int} {s : Prs} (C : CsT w h0 hh m z s) (hz : 0 ≤ z) {r : Nat} (hr : r ≤ 6) (ns : ∀ i c, s = .ok (i, c) → tokS w i ≠ 0) : wp (f_X8_mayOpen (some 9) (nI (6 - r)) hh) (fun v h' => (v = 1 ∧ (∃ i c, s = .ok (i, c)) ∧ 1 ≤ r ∧ CsT w h0 h' m (z + 1) (pbd s pAdv)) ∨ (v = 0 ∧ (r = 0 ∨ ∃ p, s = .error p) ∧ CsT w h0 h' m z (pbd s pErr))) := by
  have l := (R.sd C.1.1).l
  have bl := t_blame R T C hz z
  have ad := t_adv R T C ns
  unfold f_X8_mayOpen
  by_cases c : r = 0
  · have g : (6 : Int32) ≤ nI (6 - r) := by rw [c]; decide
    simp (config := {decide := true, maxSteps := 5000000}) (disch := omega) only [↓reduceIte, ↓wp_some, ↓wp_none, wp_ite, ↓wp_cl, ↓wp_rz, ↓wp_nz, ↓wp_nzL, ↓wp_fI, ↓wp_fL, ↓wp_fR, ↓wp_pI, ↓wp_pL, ↓wp_pR, ↓wp_pZ, ↓wp_aI, ↓wp_aL, ↓wp_aR, ↓wp_bI, ↓wp_bL, ↓wp_bR, ↓wp_rO, ↓wp_cO, ↓wp_nO, ↓wp_iO, ↓wp_tbI, ↓wp_tbL, ↓wp_jn, q_okT, q_okA, q_gI, q_gL, q_gR, q_sI, q_sL, q_sR, q_SI, q_SL, q_SR, q_IL, q_IR, q_LI, q_LR, q_RI, q_RL, List.contains_cons, List.contains_nil, Nat.reduceBEq, Nat.reduceEqDiff, beq_self_eq_true, Bool.or_false, Bool.false_or, Bool.true_or, Bool.or_true, Bool.and_true, Bool.true_and, Bool.false_and, Bool.and_false, if_true, if_false, Bool.false_eq_true, true_and, and_true, false_and, and_false, and_self, not_true, not_false_iff, reduceCtorEq, forall_const, false_imp_iff, true_imp_iff, true_or, or_true, false_or, or_false, l.r0_0, l.r0_1, l.r0_2, l.r0_3, l.r0_4, l.r0_5, l.r1_1, l.r1_2, l.r1_4, l.r1_6, l.r1_7, l.r1_8, l.r8_0, l.r8_3, l.r8_4, l.r8_5, l.r8_6, l.r8_7, l.r8_8, l.r8_9, l.r9_1, l.r9_2, l.r9_3, l.r9_4, l.r9_9, l.r21_0, l.r21_1, l.r21_3, l.r21_4, l.r21_5, l.r21_6, l.r21_7, l.r21_8, l.r28_3, l.r28_4, l.r28_5, l.r28_6, l.r28_7, l.r28_9, l.r35_0, l.r35_1, l.r35_2, l.r35_3, l.r35_4, l.r35_5, l.r36_4, l.r38_4, l.r40_4, l.r42_4, l.r44_4, l.r46_4, l.s0, l.s1, l.s2, l.s3, l.s4, l.s5, l.s6, l.s7, l.s8, l.s9, l.s10, l.s11, l.s12, l.s13, l.s14, l.s15, l.s16, l.s17, l.s18, l.s19, l.s20, l.s21, l.s22, l.s23, l.s24, l.s25, l.s26, l.s27, l.s28, l.s29, l.s30, l.s31, l.s32, l.s33, l.s34, l.s35, l.s36, l.s37, l.s38, l.s39, l.s40, l.s41, l.s42, l.s43, l.s44, l.s45, l.s46, l.s47, l.s48, g]
    refine wp_mono bl ?_
    rintro _ h' k
    exact ⟨Or.inl c, k⟩
  · have g : ¬ (6 : Int32) ≤ nI (6 - r) := by rw [show (6 : Int32) = nI 6 from rfl, nI_leI (by omega) (by omega)]; omega
    rcases C.f T with ⟨p, rfl, hp, g8, g9, i, hi, e7, e6⟩ | ⟨i, c, rfl, hi, e8, e7, e6⟩
    · simp (config := {decide := true, maxSteps := 5000000}) (disch := omega) only [↓reduceIte, ↓wp_some, ↓wp_none, wp_ite, ↓wp_cl, ↓wp_rz, ↓wp_nz, ↓wp_nzL, ↓wp_fI, ↓wp_fL, ↓wp_fR, ↓wp_pI, ↓wp_pL, ↓wp_pR, ↓wp_pZ, ↓wp_aI, ↓wp_aL, ↓wp_aR, ↓wp_bI, ↓wp_bL, ↓wp_bR, ↓wp_rO, ↓wp_cO, ↓wp_nO, ↓wp_iO, ↓wp_tbI, ↓wp_tbL, ↓wp_jn, q_okT, q_okA, q_gI, q_gL, q_gR, q_sI, q_sL, q_sR, q_SI, q_SL, q_SR, q_IL, q_IR, q_LI, q_LR, q_RI, q_RL, List.contains_cons, List.contains_nil, Nat.reduceBEq, Nat.reduceEqDiff, beq_self_eq_true, Bool.or_false, Bool.false_or, Bool.true_or, Bool.or_true, Bool.and_true, Bool.true_and, Bool.false_and, Bool.and_false, if_true, if_false, Bool.false_eq_true, true_and, and_true, false_and, and_false, and_self, not_true, not_false_iff, reduceCtorEq, forall_const, false_imp_iff, true_imp_iff, true_or, or_true, false_or, or_false, l.r0_0, l.r0_1, l.r0_2, l.r0_3, l.r0_4, l.r0_5, l.r1_1, l.r1_2, l.r1_4, l.r1_6, l.r1_7, l.r1_8, l.r8_0, l.r8_3, l.r8_4, l.r8_5, l.r8_6, l.r8_7, l.r8_8, l.r8_9, l.r9_1, l.r9_2, l.r9_3, l.r9_4, l.r9_9, l.r21_0, l.r21_1, l.r21_3, l.r21_4, l.r21_5, l.r21_6, l.r21_7, l.r21_8, l.r28_3, l.r28_4, l.r28_5, l.r28_6, l.r28_7, l.r28_9, l.r35_0, l.r35_1, l.r35_2, l.r35_3, l.r35_4, l.r35_5, l.r36_4, l.r38_4, l.r40_4, l.r42_4, l.r44_4, l.r46_4, l.s0, l.s1, l.s2, l.s3, l.s4, l.s5, l.s6, l.s7, l.s8, l.s9, l.s10, l.s11, l.s12, l.s13, l.s14, l.s15, l.s16, l.s17, l.s18, l.s19, l.s20, l.s21, l.s22, l.s23, l.s24, l.s25, l.s26, l.s27, l.s28, l.s29, l.s30, l.s31, l.s32, l.s33, l.s34, l.s35, l.s36, l.s37, l.s38, l.s39, l.s40, l.s41, l.s42, l.s43, l.s44, l.s45, l.s46, l.s47, l.s48, g, g9]
      refine wp_mono bl ?_
      rintro _ h' k
      exact ⟨Or.inr ⟨p, rfl⟩, k⟩
    · have g8 : (-1 : Int32) < 0 := by decide
      simp (config := {decide := true, maxSteps := 5000000}) (disch := omega) only [↓reduceIte, ↓wp_some, ↓wp_none, wp_ite, ↓wp_cl, ↓wp_rz, ↓wp_nz, ↓wp_nzL, ↓wp_fI, ↓wp_fL, ↓wp_fR, ↓wp_pI, ↓wp_pL, ↓wp_pR, ↓wp_pZ, ↓wp_aI, ↓wp_aL, ↓wp_aR, ↓wp_bI, ↓wp_bL, ↓wp_bR, ↓wp_rO, ↓wp_cO, ↓wp_nO, ↓wp_iO, ↓wp_tbI, ↓wp_tbL, ↓wp_jn, q_okT, q_okA, q_gI, q_gL, q_gR, q_sI, q_sL, q_sR, q_SI, q_SL, q_SR, q_IL, q_IR, q_LI, q_LR, q_RI, q_RL, List.contains_cons, List.contains_nil, Nat.reduceBEq, Nat.reduceEqDiff, beq_self_eq_true, Bool.or_false, Bool.false_or, Bool.true_or, Bool.or_true, Bool.and_true, Bool.true_and, Bool.false_and, Bool.and_false, if_true, if_false, Bool.false_eq_true, true_and, and_true, false_and, and_false, and_self, not_true, not_false_iff, reduceCtorEq, forall_const, false_imp_iff, true_imp_iff, true_or, or_true, false_or, or_false, l.r0_0, l.r0_1, l.r0_2, l.r0_3, l.r0_4, l.r0_5, l.r1_1, l.r1_2, l.r1_4, l.r1_6, l.r1_7, l.r1_8, l.r8_0, l.r8_3, l.r8_4, l.r8_5, l.r8_6, l.r8_7, l.r8_8, l.r8_9, l.r9_1, l.r9_2, l.r9_3, l.r9_4, l.r9_9, l.r21_0, l.r21_1, l.r21_3, l.r21_4, l.r21_5, l.r21_6, l.r21_7, l.r21_8, l.r28_3, l.r28_4, l.r28_5, l.r28_6, l.r28_7, l.r28_9, l.r35_0, l.r35_1, l.r35_2, l.r35_3, l.r35_4, l.r35_5, l.r36_4, l.r38_4, l.r40_4, l.r42_4, l.r44_4, l.r46_4, l.s0, l.s1, l.s2, l.s3, l.s4, l.s5, l.s6, l.s7, l.s8, l.s9, l.s10, l.s11, l.s12, l.s13, l.s14, l.s15, l.s16, l.s17, l.s18, l.s19, l.s20, l.s21, l.s22, l.s23, l.s24, l.s25, l.s26, l.s27, l.s28, l.s29, l.s30, l.s31, l.s32, l.s33, l.s34, l.s35, l.s36, l.s37, l.s38, l.s39, l.s40, l.s41, l.s42, l.s43, l.s44, l.s45, l.s46, l.s47, l.s48, g, e8, g8]
      refine wp_mono ad ?_
      rintro _ h' k
      exact ⟨⟨i, c, rfl⟩, by omega, k⟩
end
