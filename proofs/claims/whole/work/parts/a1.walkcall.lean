/-! the call walk -/
def wents (u : AH) (row : List Nat) : Nat → AH
  | 0 => u
  | j + 1 => wI (wents u row j) 97 j (hI u 92 (row.getD j 0))
theorem wents_I (u : AH) (row : List Nat) (j : Nat) {a : Nat} (h : a ≠ 97) : hI (wents u row j) a = hI u a := by
  induction j with
  | zero => rfl
  | succ j ih => unfold wents; rw [q_ne h]; exact ih
def walkV (w : AH) (B : Bst) : AH := wents (wI (wI w 49 75 (nI B.2.2.length)) 49 76 (nI B.2.1)) B.2.2 B.2.2.length
def walkd (w : AH) (B : Bst) : AH := wI (walkV w B) 49 65 0
def bestW (w : AH) (x y : Nat) : Bst := wOn (told_w w (x / 24) (x % 24) y) 8 [] 0 (x / 24) 0 0 (0, 0, [])
def isWalk_ (a g : Int32) : Bool := decide ((0 ≤ a ∧ a < 1440) ∧ 1 ≤ g ∧ g ≤ 48)
def s_walk (w : AH) (a g : Int32) : Int32 × AH := if isWalk_ a g = true then (if (bestW w a.toNatClampNeg g.toNatClampNeg).1 = 0 then (-2, w) else (nI (bestW w a.toNatClampNeg g.toNatClampNeg).1, walkd w (bestW w a.toNatClampNeg g.toNatClampNeg))) else (-1, w)
theorem div24 : ∀ x : Nat, x < 1440 → nI x / 24 = nI (x / 24) := by decide +kernel
theorem mod24b : ∀ x : Nat, x < 1440 → nI x - nI x / 24 * 24 = nI (x % 24) := by decide +kernel
theorem isWalk_ex {a g : Int32} (h : isWalk_ a g = true) : ∃ x y : Nat, x < 1440 ∧ 1 ≤ y ∧ y ≤ 48 ∧ a = nI x ∧ g = nI y := by
  unfold isWalk_ at h
  have h := of_decide_eq_true h
  obtain ⟨x, hx, rfl⟩ := nI_in0 (n := 1440) h.1.1 (by omega) h.1.2
  obtain ⟨y, hy, rfl⟩ := nI_in0 (c := g) (n := 49) (by grind) (by omega) (show g < 49 by grind)
  refine ⟨x, y, hx, ?_, by omega, rfl, rfl⟩
  have := h.2.1
  rw [show (1 : Int32) = nI 1 from rfl, nI_leI (by omega) (by omega)] at this
  exact this
theorem t_X10_isSetOut (a g : Int32) (h : AH) : wp (f_X10_isSetOut a g h) (fun r h' => r = (if isWalk_ a g = true then 1 else 0) ∧ h' = h) := by
  unfold f_X10_isSetOut isWalk_
  by_cases c1 : a < 0
  · have c2 : ¬ 0 ≤ a := Int32.not_le.mpr c1
    simp (config := {decide := true, maxSteps := 5000000}) (disch := omega) only [↓reduceIte, ↓wp_some, ↓wp_none, wp_ite, ↓wp_cl, ↓wp_rz, ↓wp_nz, ↓wp_nzL, ↓wp_fI, ↓wp_fL, ↓wp_fR, ↓wp_pI, ↓wp_pL, ↓wp_pR, ↓wp_pZ, ↓wp_aI, ↓wp_aL, ↓wp_aR, ↓wp_bI, ↓wp_bL, ↓wp_bR, ↓wp_rO, ↓wp_cO, ↓wp_nO, ↓wp_iO, ↓wp_tbI, ↓wp_tbL, ↓wp_jn, q_okT, q_okA, q_gI, q_gL, q_gR, q_sI, q_sL, q_sR, q_SI, q_SL, q_SR, q_II, q_IL, q_IR, q_LI, q_LL, q_LR, q_RI, q_RL, q_RR, List.contains_cons, List.contains_nil, Nat.reduceBEq, Nat.reduceEqDiff, beq_self_eq_true, Bool.or_false, Bool.false_or, Bool.true_or, Bool.or_true, Bool.and_true, Bool.true_and, Bool.false_and, Bool.and_false, if_true, if_false, Bool.false_eq_true, true_and, and_true, false_and, and_false, and_self, not_true, not_false_iff, reduceCtorEq, forall_const, false_imp_iff, true_imp_iff, true_or, or_true, false_or, or_false, c1, c2, decide_false]
  have c2 : 0 ≤ a := Int32.not_lt.mp c1
  by_cases c3 : 1440 ≤ a
  · have c4 : ¬ a < 1440 := Int32.not_lt.mpr c3
    simp (config := {decide := true, maxSteps := 5000000}) (disch := omega) only [↓reduceIte, ↓wp_some, ↓wp_none, wp_ite, ↓wp_cl, ↓wp_rz, ↓wp_nz, ↓wp_nzL, ↓wp_fI, ↓wp_fL, ↓wp_fR, ↓wp_pI, ↓wp_pL, ↓wp_pR, ↓wp_pZ, ↓wp_aI, ↓wp_aL, ↓wp_aR, ↓wp_bI, ↓wp_bL, ↓wp_bR, ↓wp_rO, ↓wp_cO, ↓wp_nO, ↓wp_iO, ↓wp_tbI, ↓wp_tbL, ↓wp_jn, q_okT, q_okA, q_gI, q_gL, q_gR, q_sI, q_sL, q_sR, q_SI, q_SL, q_SR, q_II, q_IL, q_IR, q_LI, q_LL, q_LR, q_RI, q_RL, q_RR, List.contains_cons, List.contains_nil, Nat.reduceBEq, Nat.reduceEqDiff, beq_self_eq_true, Bool.or_false, Bool.false_or, Bool.true_or, Bool.or_true, Bool.and_true, Bool.true_and, Bool.false_and, Bool.and_false, if_true, if_false, Bool.false_eq_true, true_and, and_true, false_and, and_false, and_self, not_true, not_false_iff, reduceCtorEq, forall_const, false_imp_iff, true_imp_iff, true_or, or_true, false_or, or_false, c1, c2, c3, c4, decide_false]
  have c4 : a < 1440 := Int32.not_le.mp c3
  by_cases c5 : g < 1
  · have c6 : ¬ 1 ≤ g := Int32.not_le.mpr c5
    simp (config := {decide := true, maxSteps := 5000000}) (disch := omega) only [↓reduceIte, ↓wp_some, ↓wp_none, wp_ite, ↓wp_cl, ↓wp_rz, ↓wp_nz, ↓wp_nzL, ↓wp_fI, ↓wp_fL, ↓wp_fR, ↓wp_pI, ↓wp_pL, ↓wp_pR, ↓wp_pZ, ↓wp_aI, ↓wp_aL, ↓wp_aR, ↓wp_bI, ↓wp_bL, ↓wp_bR, ↓wp_rO, ↓wp_cO, ↓wp_nO, ↓wp_iO, ↓wp_tbI, ↓wp_tbL, ↓wp_jn, q_okT, q_okA, q_gI, q_gL, q_gR, q_sI, q_sL, q_sR, q_SI, q_SL, q_SR, q_II, q_IL, q_IR, q_LI, q_LL, q_LR, q_RI, q_RL, q_RR, List.contains_cons, List.contains_nil, Nat.reduceBEq, Nat.reduceEqDiff, beq_self_eq_true, Bool.or_false, Bool.false_or, Bool.true_or, Bool.or_true, Bool.and_true, Bool.true_and, Bool.false_and, Bool.and_false, if_true, if_false, Bool.false_eq_true, true_and, and_true, false_and, and_false, and_self, not_true, not_false_iff, reduceCtorEq, forall_const, false_imp_iff, true_imp_iff, true_or, or_true, false_or, or_false, c1, c2, c3, c4, c5, c6, decide_false]
  have c6 : 1 ≤ g := Int32.not_lt.mp c5
  by_cases c7 : 48 < g
  · have c8 : ¬ g ≤ 48 := Int32.not_le.mpr c7
    simp (config := {decide := true, maxSteps := 5000000}) (disch := omega) only [↓reduceIte, ↓wp_some, ↓wp_none, wp_ite, ↓wp_cl, ↓wp_rz, ↓wp_nz, ↓wp_nzL, ↓wp_fI, ↓wp_fL, ↓wp_fR, ↓wp_pI, ↓wp_pL, ↓wp_pR, ↓wp_pZ, ↓wp_aI, ↓wp_aL, ↓wp_aR, ↓wp_bI, ↓wp_bL, ↓wp_bR, ↓wp_rO, ↓wp_cO, ↓wp_nO, ↓wp_iO, ↓wp_tbI, ↓wp_tbL, ↓wp_jn, q_okT, q_okA, q_gI, q_gL, q_gR, q_sI, q_sL, q_sR, q_SI, q_SL, q_SR, q_II, q_IL, q_IR, q_LI, q_LL, q_LR, q_RI, q_RL, q_RR, List.contains_cons, List.contains_nil, Nat.reduceBEq, Nat.reduceEqDiff, beq_self_eq_true, Bool.or_false, Bool.false_or, Bool.true_or, Bool.or_true, Bool.and_true, Bool.true_and, Bool.false_and, Bool.and_false, if_true, if_false, Bool.false_eq_true, true_and, and_true, false_and, and_false, and_self, not_true, not_false_iff, reduceCtorEq, forall_const, false_imp_iff, true_imp_iff, true_or, or_true, false_or, or_false, c1, c2, c3, c4, c5, c6, c7, c8, decide_false]
  have c8 : g ≤ 48 := Int32.not_lt.mp c7
  simp (config := {decide := true, maxSteps := 5000000}) (disch := omega) only [↓reduceIte, ↓wp_some, ↓wp_none, wp_ite, ↓wp_cl, ↓wp_rz, ↓wp_nz, ↓wp_nzL, ↓wp_fI, ↓wp_fL, ↓wp_fR, ↓wp_pI, ↓wp_pL, ↓wp_pR, ↓wp_pZ, ↓wp_aI, ↓wp_aL, ↓wp_aR, ↓wp_bI, ↓wp_bL, ↓wp_bR, ↓wp_rO, ↓wp_cO, ↓wp_nO, ↓wp_iO, ↓wp_tbI, ↓wp_tbL, ↓wp_jn, q_okT, q_okA, q_gI, q_gL, q_gR, q_sI, q_sL, q_sR, q_SI, q_SL, q_SR, q_II, q_IL, q_IR, q_LI, q_LL, q_LR, q_RI, q_RL, q_RR, List.contains_cons, List.contains_nil, Nat.reduceBEq, Nat.reduceEqDiff, beq_self_eq_true, Bool.or_false, Bool.false_or, Bool.true_or, Bool.or_true, Bool.and_true, Bool.true_and, Bool.false_and, Bool.and_false, if_true, if_false, Bool.false_eq_true, true_and, and_true, false_and, and_false, and_self, not_true, not_false_iff, reduceCtorEq, forall_const, false_imp_iff, true_imp_iff, true_or, or_true, false_or, or_false, c1, c2, c3, c4, c5, c6, c7, c8, decide_true]
theorem t_X12_isWalk {h w : AH} (m : RM h w) (a g : Int32) : wp (f_X12_isWalk (some 49) a g h) (fun r h' => r = (if isWalk_ a g = true then 1 else 0) ∧ h' = h) := by
  have e : (0 ≤ a ∧ a ≤ 1439) = (0 ≤ a ∧ a < 1440) := propext ⟨fun ⟨x, y⟩ => ⟨x, by grind⟩, fun ⟨x, y⟩ => ⟨x, by grind⟩⟩
  unfold f_X12_isWalk isWalk_
  by_cases c1 : 0 ≤ a ∧ a < 1440
  · have c5 : a ≤ 1439 := by have := c1.2; grind
    by_cases c2 : 1 ≤ g ∧ g ≤ 48
    · simp (config := {decide := true, maxSteps := 5000000}) (disch := omega) only [↓reduceIte, ↓wp_some, ↓wp_none, wp_ite, ↓wp_cl, ↓wp_rz, ↓wp_nz, ↓wp_nzL, ↓wp_fI, ↓wp_fL, ↓wp_fR, ↓wp_pI, ↓wp_pL, ↓wp_pR, ↓wp_pZ, ↓wp_aI, ↓wp_aL, ↓wp_aR, ↓wp_bI, ↓wp_bL, ↓wp_bR, ↓wp_rO, ↓wp_cO, ↓wp_nO, ↓wp_iO, ↓wp_tbI, ↓wp_tbL, ↓wp_jn, q_okT, q_okA, q_gI, q_gL, q_gR, q_sI, q_sL, q_sR, q_SI, q_SL, q_SR, q_II, q_IL, q_IR, q_LI, q_LL, q_LR, q_RI, q_RL, q_RR, List.contains_cons, List.contains_nil, Nat.reduceBEq, Nat.reduceEqDiff, beq_self_eq_true, Bool.or_false, Bool.false_or, Bool.true_or, Bool.or_true, Bool.and_true, Bool.true_and, Bool.false_and, Bool.and_false, if_true, if_false, Bool.false_eq_true, true_and, and_true, false_and, and_false, and_self, not_true, not_false_iff, reduceCtorEq, forall_const, false_imp_iff, true_imp_iff, true_or, or_true, false_or, or_false, wp_use (t_X12_in _ _ _ _), e, c1, c2, c5, decide_true]
    · simp (config := {decide := true, maxSteps := 5000000}) (disch := omega) only [↓reduceIte, ↓wp_some, ↓wp_none, wp_ite, ↓wp_cl, ↓wp_rz, ↓wp_nz, ↓wp_nzL, ↓wp_fI, ↓wp_fL, ↓wp_fR, ↓wp_pI, ↓wp_pL, ↓wp_pR, ↓wp_pZ, ↓wp_aI, ↓wp_aL, ↓wp_aR, ↓wp_bI, ↓wp_bL, ↓wp_bR, ↓wp_rO, ↓wp_cO, ↓wp_nO, ↓wp_iO, ↓wp_tbI, ↓wp_tbL, ↓wp_jn, q_okT, q_okA, q_gI, q_gL, q_gR, q_sI, q_sL, q_sR, q_SI, q_SL, q_SR, q_II, q_IL, q_IR, q_LI, q_LL, q_LR, q_RI, q_RL, q_RR, List.contains_cons, List.contains_nil, Nat.reduceBEq, Nat.reduceEqDiff, beq_self_eq_true, Bool.or_false, Bool.false_or, Bool.true_or, Bool.or_true, Bool.and_true, Bool.true_and, Bool.false_and, Bool.and_false, if_true, if_false, Bool.false_eq_true, true_and, and_true, false_and, and_false, and_self, not_true, not_false_iff, reduceCtorEq, forall_const, false_imp_iff, true_imp_iff, true_or, or_true, false_or, or_false, wp_use (t_X12_in _ _ _ _), e, c1, c2, c5, decide_false]
  · simp (config := {decide := true, maxSteps := 5000000}) (disch := omega) only [↓reduceIte, ↓wp_some, ↓wp_none, wp_ite, ↓wp_cl, ↓wp_rz, ↓wp_nz, ↓wp_nzL, ↓wp_fI, ↓wp_fL, ↓wp_fR, ↓wp_pI, ↓wp_pL, ↓wp_pR, ↓wp_pZ, ↓wp_aI, ↓wp_aL, ↓wp_aR, ↓wp_bI, ↓wp_bL, ↓wp_bR, ↓wp_rO, ↓wp_cO, ↓wp_nO, ↓wp_iO, ↓wp_tbI, ↓wp_tbL, ↓wp_jn, q_okT, q_okA, q_gI, q_gL, q_gR, q_sI, q_sL, q_sR, q_SI, q_SL, q_SR, q_II, q_IL, q_IR, q_LI, q_LL, q_LR, q_RI, q_RL, q_RR, List.contains_cons, List.contains_nil, Nat.reduceBEq, Nat.reduceEqDiff, beq_self_eq_true, Bool.or_false, Bool.false_or, Bool.true_or, Bool.or_true, Bool.and_true, Bool.true_and, Bool.false_and, Bool.and_false, if_true, if_false, Bool.false_eq_true, true_and, and_true, false_and, and_false, and_self, not_true, not_false_iff, reduceCtorEq, forall_const, false_imp_iff, true_imp_iff, true_or, or_true, false_or, or_false, wp_use (t_X12_in _ _ _ _), e, c1, decide_false]
theorem t_X10_findBest {h w : AH} {P : Nat → Prog} {ad : Nat → Nat} (R : RC h w P ad) (n : WN w) (W : WB w) (M : WM w) (X : WWo w) {x y : Nat} (hx : x < 1440) (hy : y ≤ 48) : wp (f_X10_findBest (some 28) (nI x) (nI y) h) (fun r h' => r = (if (bestW w x y).1 = 0 then 0 else 1) ∧ StC h h' (told_w w (x / 24) (x % 24) y) [] (bestW w x y) ∧ okBst (told_w w (x / 24) (x % 24) y) (bestW w x y)) := by
  have l := R.l
  have o := told_ok n W M X (home := x / 24) (s := x % 24) (l := y) (by omega) (Nat.mod_lt _ (by decide)) hy
  have sd := ((((Sd.refl h).wI 28 13 (nI (x / 24)) (by omega) rfl).wI 28 14 (nI (x % 24)) (by omega) rfl).wI 28 15 (nI y) (by omega) rfl).wI 28 11 0 (by omega) rfl
  have S0 : StC h (wI (wI (wI (wI h 28 13 (nI (x / 24))) 28 14 (nI (x % 24))) 28 15 (nI y)) 28 11 0) (told_w w (x / 24) (x % 24) y) [] (0, 0, []) := ⟨sd, rfl, rfl, rfl, fun j hj => absurd hj (by simp), rfl, fun q => absurd q (by show ¬ 1 ≤ 0; omega)⟩
  have E := t_extend R n W M X o 8 100 0 [] (x / 24) 0 0 (0, 0, []) _ (by simp) (by omega) (by omega) (by decide) (by simp) S0 (Or.inl rfl) (by omega) (Nat.zero_le _) (by omega)
  simp only [List.length_nil, nI_z] at E
  have d1 := div24 x hx
  have d2 := mod24b x hx
  rw [d1] at d2
  have e13 : hI (wI (wI (wI (wI h 28 13 (nI (x / 24))) 28 14 (nI (x % 24))) 28 15 (nI y)) 28 11 0) 28 13 = nI (x / 24) := rfl
  unfold f_X10_findBest f_X10_setOut
  simp (config := {decide := true, maxSteps := 5000000}) (disch := omega) only [↓reduceIte, ↓wp_some, ↓wp_none, wp_ite, ↓wp_cl, ↓wp_rz, ↓wp_nz, ↓wp_nzL, ↓wp_fI, ↓wp_fL, ↓wp_fR, ↓wp_pI, ↓wp_pL, ↓wp_pR, ↓wp_pZ, ↓wp_aI, ↓wp_aL, ↓wp_aR, ↓wp_bI, ↓wp_bL, ↓wp_bR, ↓wp_rO, ↓wp_cO, ↓wp_nO, ↓wp_iO, ↓wp_tbI, ↓wp_tbL, ↓wp_jn, q_okT, q_okA, q_gI, q_gL, q_gR, q_sI, q_sL, q_sR, q_SI, q_SL, q_SR, q_IL, q_IR, q_LI, q_LR, q_RI, q_RL, List.contains_cons, List.contains_nil, Nat.reduceBEq, Nat.reduceEqDiff, beq_self_eq_true, Bool.or_false, Bool.false_or, Bool.true_or, Bool.or_true, Bool.and_true, Bool.true_and, Bool.false_and, Bool.and_false, if_true, if_false, Bool.false_eq_true, true_and, and_true, false_and, and_false, and_self, not_true, not_false_iff, reduceCtorEq, forall_const, false_imp_iff, true_imp_iff, true_or, or_true, false_or, or_false, l.r0_0, l.r0_1, l.r0_2, l.r0_3, l.r0_4, l.r0_5, l.r1_1, l.r1_2, l.r1_4, l.r1_6, l.r1_7, l.r1_8, l.r8_0, l.r8_3, l.r8_4, l.r8_5, l.r8_6, l.r8_7, l.r8_8, l.r8_9, l.r9_1, l.r9_2, l.r9_3, l.r9_4, l.r9_9, l.r21_0, l.r21_1, l.r21_3, l.r21_4, l.r21_5, l.r21_6, l.r21_7, l.r21_8, l.r28_3, l.r28_4, l.r28_5, l.r28_6, l.r28_7, l.r28_9, l.r35_0, l.r35_1, l.r35_2, l.r35_3, l.r35_4, l.r35_5, l.r36_4, l.r38_4, l.r40_4, l.r42_4, l.r44_4, l.r46_4, l.s0, l.s1, l.s2, l.s3, l.s4, l.s5, l.s6, l.s7, l.s8, l.s9, l.s10, l.s11, l.s12, l.s13, l.s14, l.s15, l.s16, l.s17, l.s18, l.s19, l.s20, l.s21, l.s22, l.s23, l.s24, l.s25, l.s26, l.s27, l.s28, l.s29, l.s30, l.s31, l.s32, l.s33, l.s34, l.s35, l.s36, l.s37, l.s38, l.s39, l.s40, l.s41, l.s42, l.s43, l.s44, l.s45, l.s46, l.s47, l.s48, n24, ne_eq, d1, d2]
  generalize wI (wI (wI (wI h 28 13 (nI (x / 24))) 28 14 (nI (x % 24))) 28 15 (nI y)) 28 11 0 = h3 at E e13 S0 ⊢
  rw [e13]
  unfold f_X10_extend
  rw [opq_eq]
  refine wp_mono E ?_
  rintro _ h4 ⟨S, ob⟩
  have R4 := R.sd S.1
  have l := R4.l
  have e11 : hI h4 28 11 = nI (bestW w x y).1 := S.2.2.2.2.2.1
  have b700 : (bestW w x y).1 ≤ 700 := by rcases ob with e | e; rw [show bestW w x y = _ from e]; omega; exact e.2.1
  by_cases c : (bestW w x y).1 = 0
  · have c2 : nI (bestW w x y).1 ≤ 0 := by rw [c]; decide
    simp (config := {decide := true, maxSteps := 5000000}) (disch := omega) only [↓reduceIte, ↓wp_some, ↓wp_none, wp_ite, ↓wp_cl, ↓wp_rz, ↓wp_nz, ↓wp_nzL, ↓wp_fI, ↓wp_fL, ↓wp_fR, ↓wp_pI, ↓wp_pL, ↓wp_pR, ↓wp_pZ, ↓wp_aI, ↓wp_aL, ↓wp_aR, ↓wp_bI, ↓wp_bL, ↓wp_bR, ↓wp_rO, ↓wp_cO, ↓wp_nO, ↓wp_iO, ↓wp_tbI, ↓wp_tbL, ↓wp_jn, q_okT, q_okA, q_gI, q_gL, q_gR, q_sI, q_sL, q_sR, q_SI, q_SL, q_SR, q_II, q_IL, q_IR, q_LI, q_LL, q_LR, q_RI, q_RL, q_RR, List.contains_cons, List.contains_nil, Nat.reduceBEq, Nat.reduceEqDiff, beq_self_eq_true, Bool.or_false, Bool.false_or, Bool.true_or, Bool.or_true, Bool.and_true, Bool.true_and, Bool.false_and, Bool.and_false, if_true, if_false, Bool.false_eq_true, true_and, and_true, false_and, and_false, and_self, not_true, not_false_iff, reduceCtorEq, forall_const, false_imp_iff, true_imp_iff, true_or, or_true, false_or, or_false, l.r0_0, l.r0_1, l.r0_2, l.r0_3, l.r0_4, l.r0_5, l.r1_1, l.r1_2, l.r1_4, l.r1_6, l.r1_7, l.r1_8, l.r8_0, l.r8_3, l.r8_4, l.r8_5, l.r8_6, l.r8_7, l.r8_8, l.r8_9, l.r9_1, l.r9_2, l.r9_3, l.r9_4, l.r9_9, l.r21_0, l.r21_1, l.r21_3, l.r21_4, l.r21_5, l.r21_6, l.r21_7, l.r21_8, l.r28_3, l.r28_4, l.r28_5, l.r28_6, l.r28_7, l.r28_9, l.r35_0, l.r35_1, l.r35_2, l.r35_3, l.r35_4, l.r35_5, l.r36_4, l.r38_4, l.r40_4, l.r42_4, l.r44_4, l.r46_4, l.s0, l.s1, l.s2, l.s3, l.s4, l.s5, l.s6, l.s7, l.s8, l.s9, l.s10, l.s11, l.s12, l.s13, l.s14, l.s15, l.s16, l.s17, l.s18, l.s19, l.s20, l.s21, l.s22, l.s23, l.s24, l.s25, l.s26, l.s27, l.s28, l.s29, l.s30, l.s31, l.s32, l.s33, l.s34, l.s35, l.s36, l.s37, l.s38, l.s39, l.s40, l.s41, l.s42, l.s43, l.s44, l.s45, l.s46, l.s47, l.s48, e11, c2, eq_true c]
    exact ⟨S, ob⟩
  · have c2 : ¬ nI (bestW w x y).1 ≤ 0 := nI_nle (by omega) (by omega)
    simp (config := {decide := true, maxSteps := 5000000}) (disch := omega) only [↓reduceIte, ↓wp_some, ↓wp_none, wp_ite, ↓wp_cl, ↓wp_rz, ↓wp_nz, ↓wp_nzL, ↓wp_fI, ↓wp_fL, ↓wp_fR, ↓wp_pI, ↓wp_pL, ↓wp_pR, ↓wp_pZ, ↓wp_aI, ↓wp_aL, ↓wp_aR, ↓wp_bI, ↓wp_bL, ↓wp_bR, ↓wp_rO, ↓wp_cO, ↓wp_nO, ↓wp_iO, ↓wp_tbI, ↓wp_tbL, ↓wp_jn, q_okT, q_okA, q_gI, q_gL, q_gR, q_sI, q_sL, q_sR, q_SI, q_SL, q_SR, q_II, q_IL, q_IR, q_LI, q_LL, q_LR, q_RI, q_RL, q_RR, List.contains_cons, List.contains_nil, Nat.reduceBEq, Nat.reduceEqDiff, beq_self_eq_true, Bool.or_false, Bool.false_or, Bool.true_or, Bool.or_true, Bool.and_true, Bool.true_and, Bool.false_and, Bool.and_false, if_true, if_false, Bool.false_eq_true, true_and, and_true, false_and, and_false, and_self, not_true, not_false_iff, reduceCtorEq, forall_const, false_imp_iff, true_imp_iff, true_or, or_true, false_or, or_false, l.r0_0, l.r0_1, l.r0_2, l.r0_3, l.r0_4, l.r0_5, l.r1_1, l.r1_2, l.r1_4, l.r1_6, l.r1_7, l.r1_8, l.r8_0, l.r8_3, l.r8_4, l.r8_5, l.r8_6, l.r8_7, l.r8_8, l.r8_9, l.r9_1, l.r9_2, l.r9_3, l.r9_4, l.r9_9, l.r21_0, l.r21_1, l.r21_3, l.r21_4, l.r21_5, l.r21_6, l.r21_7, l.r21_8, l.r28_3, l.r28_4, l.r28_5, l.r28_6, l.r28_7, l.r28_9, l.r35_0, l.r35_1, l.r35_2, l.r35_3, l.r35_4, l.r35_5, l.r36_4, l.r38_4, l.r40_4, l.r42_4, l.r44_4, l.r46_4, l.s0, l.s1, l.s2, l.s3, l.s4, l.s5, l.s6, l.s7, l.s8, l.s9, l.s10, l.s11, l.s12, l.s13, l.s14, l.s15, l.s16, l.s17, l.s18, l.s19, l.s20, l.s21, l.s22, l.s23, l.s24, l.s25, l.s26, l.s27, l.s28, l.s29, l.s30, l.s31, l.s32, l.s33, l.s34, l.s35, l.s36, l.s37, l.s38, l.s39, l.s40, l.s41, l.s42, l.s43, l.s44, l.s45, l.s46, l.s47, l.s48, e11, c2, c]
    exact ⟨S, ob⟩
theorem RC.w12 {h w : AH} {P : Nat → Prog} {ad : Nat → Nat} (R : RC h w P ad) (x : Int32) {k : Nat} (hk : k < 2 ^ 31) : RC (wI (wI h 28 1 x) 28 2 (nI k)) (wI (wI w 49 75 (nI k)) 49 76 x) P ad := by
  refine R.fix ((R.l.wI _ _ _).wI _ _ _) rfl rfl (fun a ha => by rw [q_ne (by omega), q_ne (by omega)]) rfl (fun _ _ => rfl) rfl rfl ?_ ?_ ?_ ?_ ?_ ?_ ?_ ?_
  · exact R.g
  · exact R.mm
  · exact R.ll
  · exact R.rr
  · exact R.tt
  · refine ⟨R.wi, R.kk.2.1, R.i31, R.i32, rfl, ?_, R.i29⟩
    have e : hI (wI (wI w 49 75 (nI k)) 49 76 x) 49 75 = nI k := rfl
    rw [e, if_neg (nI_pos hk)]; rfl
  · intro s hs; have := R.ss s hs; unfold shelfAt_ at *; rw [q_ne (show 36 + 2 * s ≠ 28 by omega), q_ne (show 36 + 2 * s ≠ 28 by omega)]; exact this
  · exact R.aa
theorem RC.went {h w : AH} {P : Nat → Prog} {ad : Nat → Nat} (R : RC h w P ad) (j : Nat) (v : Int32) : RC (wI h 29 j v) (wI w 97 j v) P ad := by
  refine R.fix (R.l.wI _ _ _) rfl rfl (fun a ha => by rw [q_ne (by omega)]) rfl (fun _ _ => rfl) rfl rfl ?_ ?_ ?_ ?_ ?_ ?_ ?_ ?_
  · exact R.g
  · exact R.mm
  · exact R.ll
  · exact R.rr
  · exact R.tt
  · exact ⟨R.wi, R.kk.2.1, R.i31, R.i32, R.wh, R.wc, wI_row j v R.i29⟩
  · intro s hs; have := R.ss s hs; unfold shelfAt_ at *; rw [q_ne (show 36 + 2 * s ≠ 29 by omega)]; exact this
  · exact R.aa
theorem RC.wish0 {h w : AH} {P : Nat → Prog} {ad : Nat → Nat} (R : RC h w P ad) : RC (wI h 28 0 0) (wI w 49 65 0) P ad := by
  refine R.fix (R.l.wI _ _ _) rfl rfl (fun a ha => by rw [q_ne (by omega)]) rfl (fun _ _ => rfl) rfl rfl ?_ ?_ ?_ ?_ ?_ ?_ ?_ ?_
  · exact R.g
  · exact R.mm
  · exact R.ll
  · exact R.rr
  · exact R.tt
  · have n0 : nW (wI w 49 65 0) = 0 := by
      show (0 : Int32).toNatClampNeg = 0
      decide
    exact ⟨rfl, fun i hi => absurd hi (by omega), R.i31, R.i32, R.wh, R.wc, R.i29⟩
  · intro s hs; have := R.ss s hs; unfold shelfAt_ at *; rw [q_ne (show 36 + 2 * s ≠ 28 by omega)]; exact this
  · exact R.aa
theorem getD_in {L : List Nat} {j : Nat} (h : j < L.length) : L.getD j 0 ∈ L := by
  rw [List.getD_eq_getElem?_getD, List.getElem?_eq_getElem h]
  exact List.getElem_mem h
theorem t_X10_takeBest {h hh w : AH} {P : Nat → Prog} {ad : Nat → Nat} (R : RC h w P ad) (n : WN w) (X : WWo w) {T : Told} (hT : tW T = nW w) {B : Bst} (S : StC h hh T [] B) (ob : okBst T B) (b1 : B.1 ≠ 0) : wp (f_X10_takeBest (some 28) hh) (fun r h' => r = nI B.1 ∧ RC h' (walkd w B) P ad ∧ SM h h') := by
  have hw := n.w7
  have hn := n.n150
  obtain ⟨s1, -, -, -, -, e11, s7⟩ := S
  obtain ⟨e12, e10, e34⟩ := s7 (by omega)
  have R1 := R.sd s1
  have l := R1.l
  obtain ⟨q1, q2, q3, q4, q5, q6⟩ : 1 ≤ B.1 ∧ B.1 ≤ 700 ∧ B.2.1 ≤ 48 ∧ 1 ≤ B.2.2.length ∧ B.2.2.length ≤ 7 ∧ ∀ i ∈ B.2.2, i < tW T := ob.resolve_left (fun e => b1 (by rw [e]))
  unfold f_X10_takeBest
  simp (config := {decide := true, maxSteps := 5000000}) (disch := omega) only [↓reduceIte, ↓wp_some, ↓wp_none, wp_ite, ↓wp_cl, ↓wp_rz, ↓wp_nz, ↓wp_nzL, ↓wp_fI, ↓wp_fL, ↓wp_fR, ↓wp_pI, ↓wp_pL, ↓wp_pR, ↓wp_pZ, ↓wp_aI, ↓wp_aL, ↓wp_aR, ↓wp_bI, ↓wp_bL, ↓wp_bR, ↓wp_rO, ↓wp_cO, ↓wp_nO, ↓wp_iO, ↓wp_tbI, ↓wp_tbL, ↓wp_jn, q_okT, q_okA, q_gI, q_gL, q_gR, q_sI, q_sL, q_sR, q_SI, q_SL, q_SR, q_II, q_IL, q_IR, q_LI, q_LL, q_LR, q_RI, q_RL, q_RR, List.contains_cons, List.contains_nil, Nat.reduceBEq, Nat.reduceEqDiff, beq_self_eq_true, Bool.or_false, Bool.false_or, Bool.true_or, Bool.or_true, Bool.and_true, Bool.true_and, Bool.false_and, Bool.and_false, if_true, if_false, Bool.false_eq_true, true_and, and_true, false_and, and_false, and_self, not_true, not_false_iff, reduceCtorEq, forall_const, false_imp_iff, true_imp_iff, true_or, or_true, false_or, or_false, l.r0_0, l.r0_1, l.r0_2, l.r0_3, l.r0_4, l.r0_5, l.r1_1, l.r1_2, l.r1_4, l.r1_6, l.r1_7, l.r1_8, l.r8_0, l.r8_3, l.r8_4, l.r8_5, l.r8_6, l.r8_7, l.r8_8, l.r8_9, l.r9_1, l.r9_2, l.r9_3, l.r9_4, l.r9_9, l.r21_0, l.r21_1, l.r21_3, l.r21_4, l.r21_5, l.r21_6, l.r21_7, l.r21_8, l.r28_3, l.r28_4, l.r28_5, l.r28_6, l.r28_7, l.r28_9, l.r35_0, l.r35_1, l.r35_2, l.r35_3, l.r35_4, l.r35_5, l.r36_4, l.r38_4, l.r40_4, l.r42_4, l.r44_4, l.r46_4, l.s0, l.s1, l.s2, l.s3, l.s4, l.s5, l.s6, l.s7, l.s8, l.s9, l.s10, l.s11, l.s12, l.s13, l.s14, l.s15, l.s16, l.s17, l.s18, l.s19, l.s20, l.s21, l.s22, l.s23, l.s24, l.s25, l.s26, l.s27, l.s28, l.s29, l.s30, l.s31, l.s32, l.s33, l.s34, l.s35, l.s36, l.s37, l.s38, l.s39, l.s40, l.s41, l.s42, l.s43, l.s44, l.s45, l.s46, l.s47, l.s48, e12, e10]
  have R2 := R1.w12 (nI B.2.1) (k := B.2.2.length) (by omega)
  have m2 := (s1.SM.wI 28 1 (nI B.2.1) (by omega)).wI 28 2 (nI B.2.2.length) (by omega)
  refine wp_g2 B.2.2.length (fun j x h3 => x = nI j ∧ RC h3 (wents (wI (wI w 49 75 (nI B.2.2.length)) 49 76 (nI B.2.1)) B.2.2 j) P ad ∧ SM h h3 ∧ hI h3 28 10 = nI B.2.2.length ∧ hI h3 28 11 = nI B.1 ∧ ∀ j, j < B.2.2.length → hI h3 34 j = nI (B.2.2.getD j 0)) ⟨rfl, R2, m2, e10, e11, e34⟩ (by omega) ?_ ?_
  · rintro G x h3 ⟨rfl, R, m, e1, e2, e3⟩
    have l := R.l
    have RR := R.wish0
    have mm := m.wI 28 0 0 (by omega)
    simp (config := {decide := true, maxSteps := 5000000}) (disch := omega) only [↓reduceIte, ↓wp_some, ↓wp_none, wp_ite, ↓wp_cl, ↓wp_rz, ↓wp_nz, ↓wp_nzL, ↓wp_fI, ↓wp_fL, ↓wp_fR, ↓wp_pI, ↓wp_pL, ↓wp_pR, ↓wp_pZ, ↓wp_aI, ↓wp_aL, ↓wp_aR, ↓wp_bI, ↓wp_bL, ↓wp_bR, ↓wp_rO, ↓wp_cO, ↓wp_nO, ↓wp_iO, ↓wp_tbI, ↓wp_tbL, ↓wp_jn, q_okT, q_okA, q_gI, q_gL, q_gR, q_sI, q_sL, q_sR, q_SI, q_SL, q_SR, q_IL, q_IR, q_LI, q_LR, q_RI, q_RL, List.contains_cons, List.contains_nil, Nat.reduceBEq, Nat.reduceEqDiff, beq_self_eq_true, Bool.or_false, Bool.false_or, Bool.true_or, Bool.or_true, Bool.and_true, Bool.true_and, Bool.false_and, Bool.and_false, if_true, if_false, Bool.false_eq_true, true_and, and_true, false_and, and_false, and_self, not_true, not_false_iff, reduceCtorEq, forall_const, false_imp_iff, true_imp_iff, true_or, or_true, false_or, or_false, l.r0_0, l.r0_1, l.r0_2, l.r0_3, l.r0_4, l.r0_5, l.r1_1, l.r1_2, l.r1_4, l.r1_6, l.r1_7, l.r1_8, l.r8_0, l.r8_3, l.r8_4, l.r8_5, l.r8_6, l.r8_7, l.r8_8, l.r8_9, l.r9_1, l.r9_2, l.r9_3, l.r9_4, l.r9_9, l.r21_0, l.r21_1, l.r21_3, l.r21_4, l.r21_5, l.r21_6, l.r21_7, l.r21_8, l.r28_3, l.r28_4, l.r28_5, l.r28_6, l.r28_7, l.r28_9, l.r35_0, l.r35_1, l.r35_2, l.r35_3, l.r35_4, l.r35_5, l.r36_4, l.r38_4, l.r40_4, l.r42_4, l.r44_4, l.r46_4, l.s0, l.s1, l.s2, l.s3, l.s4, l.s5, l.s6, l.s7, l.s8, l.s9, l.s10, l.s11, l.s12, l.s13, l.s14, l.s15, l.s16, l.s17, l.s18, l.s19, l.s20, l.s21, l.s22, l.s23, l.s24, l.s25, l.s26, l.s27, l.s28, l.s29, l.s30, l.s31, l.s32, l.s33, l.s34, l.s35, l.s36, l.s37, l.s38, l.s39, l.s40, l.s41, l.s42, l.s43, l.s44, l.s45, l.s46, l.s47, l.s48, e1, Int32.le_refl, q_atne, e2]
    exact ⟨RR, mm⟩
  · rintro G j x h3 hj ⟨rfl, R, m, e1, e2, e3⟩ ih
    have l := R.l
    have lj : ¬ nI B.2.2.length ≤ nI j := by rw [nI_leI (by omega) (by omega)]; omega
    have cj : (nI j).toNatClampNeg = j := nI_clamp (by omega)
    have ej : nI j + 1 = nI (j + 1) := nI_add _ 1
    have pl := q6 _ (getD_in hj)
    rw [hT] at pl
    obtain ⟨⟨b, b2, b3, b4⟩, -⟩ := X _ pl
    have r30 := R.kk.2.1 (B.2.2.getD j 0) (by
      show _ < (hI (wents _ _ _) 49 65).toNatClampNeg
      rw [wents_I _ _ _ (by decide)]; exact pl)
    have e92 : hI (wents (wI (wI w 49 75 (nI B.2.2.length)) 49 76 (nI B.2.1)) B.2.2 j) 92 (B.2.2.getD j 0) = nI b := by rw [wents_I _ _ _ (by decide)]; exact b3
    rw [e92, nI_clamp (by omega)] at r30
    have cp : (nI (B.2.2.getD j 0)).toNatClampNeg = B.2.2.getD j 0 := nI_clamp (by omega)
    have nbE : nB (wents (wI (wI w 49 75 (nI B.2.2.length)) 49 76 (nI B.2.1)) B.2.2 j) = nB w := by
      show (hI (wents _ _ _) 49 3).toNatClampNeg = _
      rw [wents_I _ _ _ (by decide)]; rfl
    have k51 : hI (wents (wI (wI w 49 75 (nI B.2.2.length)) 49 76 (nI B.2.1)) B.2.2 j) 51 = hI w 51 := wents_I _ _ _ (by decide)
    have b2' : b < nB (wents (wI (wI w 49 75 (nI B.2.2.length)) 49 76 (nI B.2.1)) B.2.2 j) := by rw [nbE]; exact b2
    have b4' : boxK (hI (wents (wI (wI w 49 75 (nI B.2.2.length)) 49 76 (nI B.2.1)) B.2.2 j) 51 b) = true := by rw [k51]; exact b4
    have b0 := R.B.b0 b2' b4'
    have x0 := R.B.x0 b2'
    have ih := ih (nI (j + 1)) (wI h3 29 j (nI b)) ⟨rfl, by
      have := R.went j (nI b)
      unfold wents
      rw [show hI (wI (wI w 49 75 (nI B.2.2.length)) 49 76 (nI B.2.1)) 92 (B.2.2.getD j 0) = nI b from b3]
      exact this, m.wI 29 _ _ (by omega), e1, e2, e3⟩
    simp (config := {decide := true, maxSteps := 5000000}) (disch := omega) only [↓reduceIte, ↓wp_some, ↓wp_none, wp_ite, ↓wp_cl, ↓wp_rz, ↓wp_nz, ↓wp_nzL, ↓wp_fI, ↓wp_fL, ↓wp_fR, ↓wp_pI, ↓wp_pL, ↓wp_pR, ↓wp_pZ, ↓wp_aI, ↓wp_aL, ↓wp_aR, ↓wp_bI, ↓wp_bL, ↓wp_bR, ↓wp_rO, ↓wp_cO, ↓wp_nO, ↓wp_iO, ↓wp_tbI, ↓wp_tbL, ↓wp_jn, q_okT, q_okA, q_gI, q_gL, q_gR, q_sI, q_sL, q_sR, q_SI, q_SL, q_SR, q_IL, q_IR, q_LI, q_LR, q_RI, q_RL, List.contains_cons, List.contains_nil, Nat.reduceBEq, Nat.reduceEqDiff, beq_self_eq_true, Bool.or_false, Bool.false_or, Bool.true_or, Bool.or_true, Bool.and_true, Bool.true_and, Bool.false_and, Bool.and_false, if_true, if_false, Bool.false_eq_true, true_and, and_true, false_and, and_false, and_self, not_true, not_false_iff, reduceCtorEq, forall_const, false_imp_iff, true_imp_iff, true_or, or_true, false_or, or_false, l.r0_0, l.r0_1, l.r0_2, l.r0_3, l.r0_4, l.r0_5, l.r1_1, l.r1_2, l.r1_4, l.r1_6, l.r1_7, l.r1_8, l.r8_0, l.r8_3, l.r8_4, l.r8_5, l.r8_6, l.r8_7, l.r8_8, l.r8_9, l.r9_1, l.r9_2, l.r9_3, l.r9_4, l.r9_9, l.r21_0, l.r21_1, l.r21_3, l.r21_4, l.r21_5, l.r21_6, l.r21_7, l.r21_8, l.r28_3, l.r28_4, l.r28_5, l.r28_6, l.r28_7, l.r28_9, l.r35_0, l.r35_1, l.r35_2, l.r35_3, l.r35_4, l.r35_5, l.r36_4, l.r38_4, l.r40_4, l.r42_4, l.r44_4, l.r46_4, l.s0, l.s1, l.s2, l.s3, l.s4, l.s5, l.s6, l.s7, l.s8, l.s9, l.s10, l.s11, l.s12, l.s13, l.s14, l.s15, l.s16, l.s17, l.s18, l.s19, l.s20, l.s21, l.s22, l.s23, l.s24, l.s25, l.s26, l.s27, l.s28, l.s29, l.s30, l.s31, l.s32, l.s33, l.s34, l.s35, l.s36, l.s37, l.s38, l.s39, l.s40, l.s41, l.s42, l.s43, l.s44, l.s45, l.s46, l.s47, l.s48, e1, lj, cj, e3 j hj, cp, r30, b0, x0, ej, nI_neg, dle, decide_false, Bool.not_false]
    exact ih
theorem c_walk {h w : AH} {P : Nat → Prog} {ad : Nat → Nat} (R : RC h w P ad) (n : WN w) (W : WB w) (M : WM w) (X : WWo w) (a g : Int32) : wp (f_X11_walk (some 0) a g h) (fun r h' => r = (s_walk w a g).1 ∧ RC h' (s_walk w a g).2 P ad ∧ SM h h') := by
  have l := R.l
  have sm := SM.refl h
  unfold f_X11_walk s_walk
  by_cases z : isWalk_ a g = true
  · obtain ⟨x, y, hx, hy1, hy, rfl, rfl⟩ := isWalk_ex z
    have cx : (nI x).toNatClampNeg = x := nI_clamp (by omega)
    have cy : (nI y).toNatClampNeg = y := nI_clamp (by omega)
    simp (config := {decide := true, maxSteps := 5000000}) (disch := omega) only [↓reduceIte, ↓wp_some, ↓wp_none, wp_ite, ↓wp_cl, ↓wp_rz, ↓wp_nz, ↓wp_nzL, ↓wp_fI, ↓wp_fL, ↓wp_fR, ↓wp_pI, ↓wp_pL, ↓wp_pR, ↓wp_pZ, ↓wp_aI, ↓wp_aL, ↓wp_aR, ↓wp_bI, ↓wp_bL, ↓wp_bR, ↓wp_rO, ↓wp_cO, ↓wp_nO, ↓wp_iO, ↓wp_tbI, ↓wp_tbL, ↓wp_jn, q_okT, q_okA, q_gI, q_gL, q_gR, q_sI, q_sL, q_sR, q_SI, q_SL, q_SR, q_IL, q_IR, q_LI, q_LR, q_RI, q_RL, List.contains_cons, List.contains_nil, Nat.reduceBEq, Nat.reduceEqDiff, beq_self_eq_true, Bool.or_false, Bool.false_or, Bool.true_or, Bool.or_true, Bool.and_true, Bool.true_and, Bool.false_and, Bool.and_false, if_true, if_false, Bool.false_eq_true, true_and, and_true, false_and, and_false, and_self, not_true, not_false_iff, reduceCtorEq, forall_const, false_imp_iff, true_imp_iff, true_or, or_true, false_or, or_false, l.r0_0, l.r0_1, l.r0_2, l.r0_3, l.r0_4, l.r0_5, l.r1_1, l.r1_2, l.r1_4, l.r1_6, l.r1_7, l.r1_8, l.r8_0, l.r8_3, l.r8_4, l.r8_5, l.r8_6, l.r8_7, l.r8_8, l.r8_9, l.r9_1, l.r9_2, l.r9_3, l.r9_4, l.r9_9, l.r21_0, l.r21_1, l.r21_3, l.r21_4, l.r21_5, l.r21_6, l.r21_7, l.r21_8, l.r28_3, l.r28_4, l.r28_5, l.r28_6, l.r28_7, l.r28_9, l.r35_0, l.r35_1, l.r35_2, l.r35_3, l.r35_4, l.r35_5, l.r36_4, l.r38_4, l.r40_4, l.r42_4, l.r44_4, l.r46_4, l.s0, l.s1, l.s2, l.s3, l.s4, l.s5, l.s6, l.s7, l.s8, l.s9, l.s10, l.s11, l.s12, l.s13, l.s14, l.s15, l.s16, l.s17, l.s18, l.s19, l.s20, l.s21, l.s22, l.s23, l.s24, l.s25, l.s26, l.s27, l.s28, l.s29, l.s30, l.s31, l.s32, l.s33, l.s34, l.s35, l.s36, l.s37, l.s38, l.s39, l.s40, l.s41, l.s42, l.s43, l.s44, l.s45, l.s46, l.s47, l.s48, wp_use (t_X10_isSetOut _ _ _), z, cx, cy]
    refine wp_mono (t_X10_findBest R n W M X hx hy) ?_
    rintro _ h4 ⟨rfl, S, ob⟩
    have R4 := R.sd S.1
    have l := R4.l
    by_cases c : (bestW w x y).1 = 0
    · simp (config := {decide := true, maxSteps := 5000000}) (disch := omega) only [↓reduceIte, ↓wp_some, ↓wp_none, wp_ite, ↓wp_cl, ↓wp_rz, ↓wp_nz, ↓wp_nzL, ↓wp_fI, ↓wp_fL, ↓wp_fR, ↓wp_pI, ↓wp_pL, ↓wp_pR, ↓wp_pZ, ↓wp_aI, ↓wp_aL, ↓wp_aR, ↓wp_bI, ↓wp_bL, ↓wp_bR, ↓wp_rO, ↓wp_cO, ↓wp_nO, ↓wp_iO, ↓wp_tbI, ↓wp_tbL, ↓wp_jn, q_okT, q_okA, q_gI, q_gL, q_gR, q_sI, q_sL, q_sR, q_SI, q_SL, q_SR, q_IL, q_IR, q_LI, q_LR, q_RI, q_RL, List.contains_cons, List.contains_nil, Nat.reduceBEq, Nat.reduceEqDiff, beq_self_eq_true, Bool.or_false, Bool.false_or, Bool.true_or, Bool.or_true, Bool.and_true, Bool.true_and, Bool.false_and, Bool.and_false, if_true, if_false, Bool.false_eq_true, true_and, and_true, false_and, and_false, and_self, not_true, not_false_iff, reduceCtorEq, forall_const, false_imp_iff, true_imp_iff, true_or, or_true, false_or, or_false, l.r0_0, l.r0_1, l.r0_2, l.r0_3, l.r0_4, l.r0_5, l.r1_1, l.r1_2, l.r1_4, l.r1_6, l.r1_7, l.r1_8, l.r8_0, l.r8_3, l.r8_4, l.r8_5, l.r8_6, l.r8_7, l.r8_8, l.r8_9, l.r9_1, l.r9_2, l.r9_3, l.r9_4, l.r9_9, l.r21_0, l.r21_1, l.r21_3, l.r21_4, l.r21_5, l.r21_6, l.r21_7, l.r21_8, l.r28_3, l.r28_4, l.r28_5, l.r28_6, l.r28_7, l.r28_9, l.r35_0, l.r35_1, l.r35_2, l.r35_3, l.r35_4, l.r35_5, l.r36_4, l.r38_4, l.r40_4, l.r42_4, l.r44_4, l.r46_4, l.s0, l.s1, l.s2, l.s3, l.s4, l.s5, l.s6, l.s7, l.s8, l.s9, l.s10, l.s11, l.s12, l.s13, l.s14, l.s15, l.s16, l.s17, l.s18, l.s19, l.s20, l.s21, l.s22, l.s23, l.s24, l.s25, l.s26, l.s27, l.s28, l.s29, l.s30, l.s31, l.s32, l.s33, l.s34, l.s35, l.s36, l.s37, l.s38, l.s39, l.s40, l.s41, l.s42, l.s43, l.s44, l.s45, l.s46, l.s47, l.s48, eq_true c]
      exact ⟨R4, S.1.SM⟩
    · simp (config := {decide := true, maxSteps := 5000000}) (disch := omega) only [↓reduceIte, ↓wp_some, ↓wp_none, wp_ite, ↓wp_cl, ↓wp_rz, ↓wp_nz, ↓wp_nzL, ↓wp_fI, ↓wp_fL, ↓wp_fR, ↓wp_pI, ↓wp_pL, ↓wp_pR, ↓wp_pZ, ↓wp_aI, ↓wp_aL, ↓wp_aR, ↓wp_bI, ↓wp_bL, ↓wp_bR, ↓wp_rO, ↓wp_cO, ↓wp_nO, ↓wp_iO, ↓wp_tbI, ↓wp_tbL, ↓wp_jn, q_okT, q_okA, q_gI, q_gL, q_gR, q_sI, q_sL, q_sR, q_SI, q_SL, q_SR, q_IL, q_IR, q_LI, q_LR, q_RI, q_RL, List.contains_cons, List.contains_nil, Nat.reduceBEq, Nat.reduceEqDiff, beq_self_eq_true, Bool.or_false, Bool.false_or, Bool.true_or, Bool.or_true, Bool.and_true, Bool.true_and, Bool.false_and, Bool.and_false, if_true, if_false, Bool.false_eq_true, true_and, and_true, false_and, and_false, and_self, not_true, not_false_iff, reduceCtorEq, forall_const, false_imp_iff, true_imp_iff, true_or, or_true, false_or, or_false, l.r0_0, l.r0_1, l.r0_2, l.r0_3, l.r0_4, l.r0_5, l.r1_1, l.r1_2, l.r1_4, l.r1_6, l.r1_7, l.r1_8, l.r8_0, l.r8_3, l.r8_4, l.r8_5, l.r8_6, l.r8_7, l.r8_8, l.r8_9, l.r9_1, l.r9_2, l.r9_3, l.r9_4, l.r9_9, l.r21_0, l.r21_1, l.r21_3, l.r21_4, l.r21_5, l.r21_6, l.r21_7, l.r21_8, l.r28_3, l.r28_4, l.r28_5, l.r28_6, l.r28_7, l.r28_9, l.r35_0, l.r35_1, l.r35_2, l.r35_3, l.r35_4, l.r35_5, l.r36_4, l.r38_4, l.r40_4, l.r42_4, l.r44_4, l.r46_4, l.s0, l.s1, l.s2, l.s3, l.s4, l.s5, l.s6, l.s7, l.s8, l.s9, l.s10, l.s11, l.s12, l.s13, l.s14, l.s15, l.s16, l.s17, l.s18, l.s19, l.s20, l.s21, l.s22, l.s23, l.s24, l.s25, l.s26, l.s27, l.s28, l.s29, l.s30, l.s31, l.s32, l.s33, l.s34, l.s35, l.s36, l.s37, l.s38, l.s39, l.s40, l.s41, l.s42, l.s43, l.s44, l.s45, l.s46, l.s47, l.s48, c]
      refine wp_mono (t_X10_takeBest R n X rfl S ob c) ?_
      rintro _ h5 ⟨rfl, q⟩
      exact ⟨rfl, q⟩
  · simp (config := {decide := true, maxSteps := 5000000}) (disch := omega) only [↓reduceIte, ↓wp_some, ↓wp_none, wp_ite, ↓wp_cl, ↓wp_rz, ↓wp_nz, ↓wp_nzL, ↓wp_fI, ↓wp_fL, ↓wp_fR, ↓wp_pI, ↓wp_pL, ↓wp_pR, ↓wp_pZ, ↓wp_aI, ↓wp_aL, ↓wp_aR, ↓wp_bI, ↓wp_bL, ↓wp_bR, ↓wp_rO, ↓wp_cO, ↓wp_nO, ↓wp_iO, ↓wp_tbI, ↓wp_tbL, ↓wp_jn, q_okT, q_okA, q_gI, q_gL, q_gR, q_sI, q_sL, q_sR, q_SI, q_SL, q_SR, q_IL, q_IR, q_LI, q_LR, q_RI, q_RL, List.contains_cons, List.contains_nil, Nat.reduceBEq, Nat.reduceEqDiff, beq_self_eq_true, Bool.or_false, Bool.false_or, Bool.true_or, Bool.or_true, Bool.and_true, Bool.true_and, Bool.false_and, Bool.and_false, if_true, if_false, Bool.false_eq_true, true_and, and_true, false_and, and_false, and_self, not_true, not_false_iff, reduceCtorEq, forall_const, false_imp_iff, true_imp_iff, true_or, or_true, false_or, or_false, l.r0_0, l.r0_1, l.r0_2, l.r0_3, l.r0_4, l.r0_5, l.r1_1, l.r1_2, l.r1_4, l.r1_6, l.r1_7, l.r1_8, l.r8_0, l.r8_3, l.r8_4, l.r8_5, l.r8_6, l.r8_7, l.r8_8, l.r8_9, l.r9_1, l.r9_2, l.r9_3, l.r9_4, l.r9_9, l.r21_0, l.r21_1, l.r21_3, l.r21_4, l.r21_5, l.r21_6, l.r21_7, l.r21_8, l.r28_3, l.r28_4, l.r28_5, l.r28_6, l.r28_7, l.r28_9, l.r35_0, l.r35_1, l.r35_2, l.r35_3, l.r35_4, l.r35_5, l.r36_4, l.r38_4, l.r40_4, l.r42_4, l.r44_4, l.r46_4, l.s0, l.s1, l.s2, l.s3, l.s4, l.s5, l.s6, l.s7, l.s8, l.s9, l.s10, l.s11, l.s12, l.s13, l.s14, l.s15, l.s16, l.s17, l.s18, l.s19, l.s20, l.s21, l.s22, l.s23, l.s24, l.s25, l.s26, l.s27, l.s28, l.s29, l.s30, l.s31, l.s32, l.s33, l.s34, l.s35, l.s36, l.s37, l.s38, l.s39, l.s40, l.s41, l.s42, l.s43, l.s44, l.s45, l.s46, l.s47, l.s48, wp_use (t_X10_isSetOut _ _ _), z]
    exact ⟨R, sm⟩
theorem r_walk {h w : AH} {P : Nat → Prog} (mx : RMx h w P) (n : WN w) (W : WB w) (M : WM w) (X : WWo w) (a g : Int32) : wp (f_X12_walk (some 49) a g h) (fun r h' => r = (s_walk w a g).1 ∧ RMx h' (s_walk w a g).2 P ∧ SC h h') := by
  have m := mx.1
  have l := m.1
  have sc := SC.refl h
  have hw := n.w7
  have hn := n.n150
  unfold f_X12_walk s_walk
  by_cases z : isWalk_ a g = true
  · obtain ⟨x, y, hx, hy1, hy, rfl, rfl⟩ := isWalk_ex z
    have cx : (nI x).toNatClampNeg = x := nI_clamp (by omega)
    have cy : (nI y).toNatClampNeg = y := nI_clamp (by omega)
    have d1 := div24 x hx
    have d2 := mod24b x hx
    rw [d1] at d2
    have o := told_ok n W M X (home := x / 24) (s := x % 24) (l := y) (by omega) (Nat.mod_lt _ (by decide)) hy
    have sv := ((((((Sv.refl h).wI 49 77 (nI (x / 24)) (by omega) rfl).wI 49 78 (nI (x % 24)) (by omega) rfl).wI 49 79 (nI y) (by omega) rfl).wI 49 71 0 (by omega) rfl).wI 49 72 0 (by omega) rfl).wI 49 73 0 (by omega) rfl
    have S0 : StR h (wI (wI (wI (wI (wI (wI h 49 77 (nI (x / 24))) 49 78 (nI (x % 24))) 49 79 (nI y)) 49 71 0) 49 72 0) 49 73 0) (told_w w (x / 24) (x % 24) y) [] (0, 0, []) := ⟨sv, rfl, rfl, rfl, fun j hj => absurd hj (by simp), rfl, rfl, fun q => absurd q (by show ¬ 1 ≤ 0; omega)⟩
    have E := t_walkOn m n W M X o 8 100 0 [] (x / 24) 0 0 (0, 0, []) _ (by simp) (by omega) (by omega) (by decide) (by simp) S0 (Or.inl rfl) (by omega) (Nat.zero_le _) (by omega) (Or.inl rfl)
    simp only [List.length_nil, nI_z, if_true, Nat.add_zero] at E
    have e77 : hI (wI (wI (wI (wI (wI (wI h 49 77 (nI (x / 24))) 49 78 (nI (x % 24))) 49 79 (nI y)) 49 71 0) 49 72 0) 49 73 0) 49 77 = nI (x / 24) := rfl
    have e78 : hI (wI (wI (wI (wI (wI (wI h 49 77 (nI (x / 24))) 49 78 (nI (x % 24))) 49 79 (nI y)) 49 71 0) 49 72 0) 49 73 0) 49 78 = nI (x % 24) := rfl
    unfold f_X12_begin
    simp (config := {decide := true, maxSteps := 5000000}) (disch := omega) only [↓reduceIte, ↓wp_some, ↓wp_none, wp_ite, ↓wp_cl, ↓wp_rz, ↓wp_nz, ↓wp_nzL, ↓wp_fI, ↓wp_fL, ↓wp_fR, ↓wp_pI, ↓wp_pL, ↓wp_pR, ↓wp_pZ, ↓wp_aI, ↓wp_aL, ↓wp_aR, ↓wp_bI, ↓wp_bL, ↓wp_bR, ↓wp_rO, ↓wp_cO, ↓wp_nO, ↓wp_iO, ↓wp_tbI, ↓wp_tbL, ↓wp_jn, q_okT, q_okA, q_gI, q_gL, q_gR, q_sI, q_sL, q_sR, q_SI, q_SL, q_SR, q_IL, q_IR, q_LI, q_LR, q_RI, q_RL, List.contains_cons, List.contains_nil, Nat.reduceBEq, Nat.reduceEqDiff, beq_self_eq_true, Bool.or_false, Bool.false_or, Bool.true_or, Bool.or_true, Bool.and_true, Bool.true_and, Bool.false_and, Bool.and_false, if_true, if_false, Bool.false_eq_true, true_and, and_true, false_and, and_false, and_self, not_true, not_false_iff, reduceCtorEq, forall_const, false_imp_iff, true_imp_iff, true_or, or_true, false_or, or_false, l.r49_2, l.r49_4, l.r49_5, l.r49_6, l.r49_7, l.r49_8, l.r49_9, l.r49_10, l.r49_12, l.r49_14, l.r49_15, l.r49_16, l.r49_18, l.r49_19, l.r49_20, l.r49_21, l.r49_22, l.r49_23, l.r49_24, l.r49_34, l.r49_35, l.r49_36, l.r49_37, l.r49_38, l.r49_39, l.r49_40, l.r49_41, l.r49_42, l.r49_43, l.r49_44, l.r49_46, l.r49_47, l.r49_48, l.r49_49, l.r49_50, l.r49_51, l.r49_59, l.r49_60, l.r49_61, l.r49_62, l.r49_63, l.r49_64, l.r49_66, l.r49_67, l.r49_68, l.r49_69, l.r49_70, l.r49_74, l.r49_80, l.r49_81, l.r49_82, l.r49_83, l.r49_85, l.r49_86, l.r49_87, l.r49_88, l.r49_89, l.s49, l.s50, l.s51, l.s52, l.s53, l.s54, l.s55, l.s56, l.s57, l.s58, l.s59, l.s60, l.s61, l.s62, l.s63, l.s64, l.s65, l.s66, l.s67, l.s68, l.s69, l.s70, l.s71, l.s72, l.s73, l.s74, l.s75, l.s76, l.s77, l.s78, l.s79, l.s80, l.s81, l.s82, l.s83, l.s84, l.s85, l.s86, l.s87, l.s88, l.s89, l.s90, l.s91, l.s92, l.s93, l.s94, l.s95, l.s96, l.s97, l.s98, l.s99, l.s100, l.s101, l.s102, l.s103, l.s104, l.s105, l.s106, wp_use (t_X12_isWalk m _ _), z, cx, cy, n24, ne_eq, d1, d2]
    generalize wI (wI (wI (wI (wI (wI h 49 77 (nI (x / 24))) 49 78 (nI (x % 24))) 49 79 (nI y)) 49 71 0) 49 72 0) 49 73 0 = h3 at E e77 e78 S0 ⊢
    rw [e77, e78]
    unfold f_X12_walkOn
    rw [opq_eq]
    refine wp_mono E ?_
    rintro _ h4 ⟨S, ob⟩
    have eB : wOn (told_w w (x / 24) (x % 24) y) 8 [] 0 (x / 24) 0 0 (0, 0, []) = bestW w x y := rfl
    rw [eB] at S ob
    generalize bestW w x y = B at S ob ⊢
    obtain ⟨s1, -, -, -, -, e71, e73, s8⟩ := S
    have mx1 := mx.sv s1
    have l := mx1.1.1
    by_cases c : B.1 = 0
    · have c0 : B.2.2.length = 0 := by
        rcases ob with e | e
        · rw [e]; rfl
        · have := e.1; omega
      have c2 : nI B.2.2.length = 0 := by rw [c0]; rfl
      simp (config := {decide := true, maxSteps := 5000000}) (disch := omega) only [↓reduceIte, ↓wp_some, ↓wp_none, wp_ite, ↓wp_cl, ↓wp_rz, ↓wp_nz, ↓wp_nzL, ↓wp_fI, ↓wp_fL, ↓wp_fR, ↓wp_pI, ↓wp_pL, ↓wp_pR, ↓wp_pZ, ↓wp_aI, ↓wp_aL, ↓wp_aR, ↓wp_bI, ↓wp_bL, ↓wp_bR, ↓wp_rO, ↓wp_cO, ↓wp_nO, ↓wp_iO, ↓wp_tbI, ↓wp_tbL, ↓wp_jn, q_okT, q_okA, q_gI, q_gL, q_gR, q_sI, q_sL, q_sR, q_SI, q_SL, q_SR, q_IL, q_IR, q_LI, q_LR, q_RI, q_RL, List.contains_cons, List.contains_nil, Nat.reduceBEq, Nat.reduceEqDiff, beq_self_eq_true, Bool.or_false, Bool.false_or, Bool.true_or, Bool.or_true, Bool.and_true, Bool.true_and, Bool.false_and, Bool.and_false, if_true, if_false, Bool.false_eq_true, true_and, and_true, false_and, and_false, and_self, not_true, not_false_iff, reduceCtorEq, forall_const, false_imp_iff, true_imp_iff, true_or, or_true, false_or, or_false, l.r49_2, l.r49_4, l.r49_5, l.r49_6, l.r49_7, l.r49_8, l.r49_9, l.r49_10, l.r49_12, l.r49_14, l.r49_15, l.r49_16, l.r49_18, l.r49_19, l.r49_20, l.r49_21, l.r49_22, l.r49_23, l.r49_24, l.r49_34, l.r49_35, l.r49_36, l.r49_37, l.r49_38, l.r49_39, l.r49_40, l.r49_41, l.r49_42, l.r49_43, l.r49_44, l.r49_46, l.r49_47, l.r49_48, l.r49_49, l.r49_50, l.r49_51, l.r49_59, l.r49_60, l.r49_61, l.r49_62, l.r49_63, l.r49_64, l.r49_66, l.r49_67, l.r49_68, l.r49_69, l.r49_70, l.r49_74, l.r49_80, l.r49_81, l.r49_82, l.r49_83, l.r49_85, l.r49_86, l.r49_87, l.r49_88, l.r49_89, l.s49, l.s50, l.s51, l.s52, l.s53, l.s54, l.s55, l.s56, l.s57, l.s58, l.s59, l.s60, l.s61, l.s62, l.s63, l.s64, l.s65, l.s66, l.s67, l.s68, l.s69, l.s70, l.s71, l.s72, l.s73, l.s74, l.s75, l.s76, l.s77, l.s78, l.s79, l.s80, l.s81, l.s82, l.s83, l.s84, l.s85, l.s86, l.s87, l.s88, l.s89, l.s90, l.s91, l.s92, l.s93, l.s94, l.s95, l.s96, l.s97, l.s98, l.s99, l.s100, l.s101, l.s102, l.s103, l.s104, l.s105, l.s106, e73, c2, eq_true c]
      exact ⟨mx1, s1.SC⟩
    · obtain ⟨e72, e96⟩ := s8 (by omega)
      obtain ⟨q1, q2, q3, q4, q5, q6⟩ : 1 ≤ B.1 ∧ B.1 ≤ 700 ∧ B.2.1 ≤ 48 ∧ 1 ≤ B.2.2.length ∧ B.2.2.length ≤ 7 ∧ ∀ i ∈ B.2.2, i < tW (told_w w (x / 24) (x % 24) y) := ob.resolve_left (fun e => c (by rw [e]))
      have c2 : ¬ nI B.2.2.length = 0 := by rw [show (0 : Int32) = nI 0 from rfl, nI_eq (by omega) (by omega)]; omega
      have mx2 := (mx1.wI 49 75 (nI B.2.2.length) (by omega) (by omega)).wI 49 76 (nI B.2.1) (by omega) (by omega)
      have sc2 := (s1.SC.wI 49 75 (nI B.2.2.length) (by omega) (by omega)).wI 49 76 (nI B.2.1) (by omega) (by omega)
      simp (config := {decide := true, maxSteps := 5000000}) (disch := omega) only [↓reduceIte, ↓wp_some, ↓wp_none, wp_ite, ↓wp_cl, ↓wp_rz, ↓wp_nz, ↓wp_nzL, ↓wp_fI, ↓wp_fL, ↓wp_fR, ↓wp_pI, ↓wp_pL, ↓wp_pR, ↓wp_pZ, ↓wp_aI, ↓wp_aL, ↓wp_aR, ↓wp_bI, ↓wp_bL, ↓wp_bR, ↓wp_rO, ↓wp_cO, ↓wp_nO, ↓wp_iO, ↓wp_tbI, ↓wp_tbL, ↓wp_jn, q_okT, q_okA, q_gI, q_gL, q_gR, q_sI, q_sL, q_sR, q_SI, q_SL, q_SR, q_II, q_IL, q_IR, q_LI, q_LL, q_LR, q_RI, q_RL, q_RR, List.contains_cons, List.contains_nil, Nat.reduceBEq, Nat.reduceEqDiff, beq_self_eq_true, Bool.or_false, Bool.false_or, Bool.true_or, Bool.or_true, Bool.and_true, Bool.true_and, Bool.false_and, Bool.and_false, if_true, if_false, Bool.false_eq_true, true_and, and_true, false_and, and_false, and_self, not_true, not_false_iff, reduceCtorEq, forall_const, false_imp_iff, true_imp_iff, true_or, or_true, false_or, or_false, l.r49_2, l.r49_4, l.r49_5, l.r49_6, l.r49_7, l.r49_8, l.r49_9, l.r49_10, l.r49_12, l.r49_14, l.r49_15, l.r49_16, l.r49_18, l.r49_19, l.r49_20, l.r49_21, l.r49_22, l.r49_23, l.r49_24, l.r49_34, l.r49_35, l.r49_36, l.r49_37, l.r49_38, l.r49_39, l.r49_40, l.r49_41, l.r49_42, l.r49_43, l.r49_44, l.r49_46, l.r49_47, l.r49_48, l.r49_49, l.r49_50, l.r49_51, l.r49_59, l.r49_60, l.r49_61, l.r49_62, l.r49_63, l.r49_64, l.r49_66, l.r49_67, l.r49_68, l.r49_69, l.r49_70, l.r49_74, l.r49_80, l.r49_81, l.r49_82, l.r49_83, l.r49_85, l.r49_86, l.r49_87, l.r49_88, l.r49_89, l.s49, l.s50, l.s51, l.s52, l.s53, l.s54, l.s55, l.s56, l.s57, l.s58, l.s59, l.s60, l.s61, l.s62, l.s63, l.s64, l.s65, l.s66, l.s67, l.s68, l.s69, l.s70, l.s71, l.s72, l.s73, l.s74, l.s75, l.s76, l.s77, l.s78, l.s79, l.s80, l.s81, l.s82, l.s83, l.s84, l.s85, l.s86, l.s87, l.s88, l.s89, l.s90, l.s91, l.s92, l.s93, l.s94, l.s95, l.s96, l.s97, l.s98, l.s99, l.s100, l.s101, l.s102, l.s103, l.s104, l.s105, l.s106, e73, e72, c2, c]
      refine wp_g2 B.2.2.length (fun j x h3 => x = nI j ∧ RMx h3 (wents (wI (wI w 49 75 (nI B.2.2.length)) 49 76 (nI B.2.1)) B.2.2 j) P ∧ SC h h3 ∧ hI h3 49 73 = nI B.2.2.length ∧ hI h3 49 71 = nI B.1 ∧ ∀ j, j < B.2.2.length → hI h3 96 j = nI (B.2.2.getD j 0)) ⟨rfl, mx2, sc2, e73, e71, e96⟩ (by omega) ?_ ?_
      · rintro G x h3 ⟨rfl, mx, sc, e1, e2, e3⟩
        have l := mx.1.1
        have mx3 := mx.wI 49 65 0 (by omega) (by omega)
        have sc3 := sc.wI 49 65 0 (by omega) (by omega)
        simp (config := {decide := true, maxSteps := 5000000}) (disch := omega) only [↓reduceIte, ↓wp_some, ↓wp_none, wp_ite, ↓wp_cl, ↓wp_rz, ↓wp_nz, ↓wp_nzL, ↓wp_fI, ↓wp_fL, ↓wp_fR, ↓wp_pI, ↓wp_pL, ↓wp_pR, ↓wp_pZ, ↓wp_aI, ↓wp_aL, ↓wp_aR, ↓wp_bI, ↓wp_bL, ↓wp_bR, ↓wp_rO, ↓wp_cO, ↓wp_nO, ↓wp_iO, ↓wp_tbI, ↓wp_tbL, ↓wp_jn, q_okT, q_okA, q_gI, q_gL, q_gR, q_sI, q_sL, q_sR, q_SI, q_SL, q_SR, q_IL, q_IR, q_LI, q_LR, q_RI, q_RL, List.contains_cons, List.contains_nil, Nat.reduceBEq, Nat.reduceEqDiff, beq_self_eq_true, Bool.or_false, Bool.false_or, Bool.true_or, Bool.or_true, Bool.and_true, Bool.true_and, Bool.false_and, Bool.and_false, if_true, if_false, Bool.false_eq_true, true_and, and_true, false_and, and_false, and_self, not_true, not_false_iff, reduceCtorEq, forall_const, false_imp_iff, true_imp_iff, true_or, or_true, false_or, or_false, l.r49_2, l.r49_4, l.r49_5, l.r49_6, l.r49_7, l.r49_8, l.r49_9, l.r49_10, l.r49_12, l.r49_14, l.r49_15, l.r49_16, l.r49_18, l.r49_19, l.r49_20, l.r49_21, l.r49_22, l.r49_23, l.r49_24, l.r49_34, l.r49_35, l.r49_36, l.r49_37, l.r49_38, l.r49_39, l.r49_40, l.r49_41, l.r49_42, l.r49_43, l.r49_44, l.r49_46, l.r49_47, l.r49_48, l.r49_49, l.r49_50, l.r49_51, l.r49_59, l.r49_60, l.r49_61, l.r49_62, l.r49_63, l.r49_64, l.r49_66, l.r49_67, l.r49_68, l.r49_69, l.r49_70, l.r49_74, l.r49_80, l.r49_81, l.r49_82, l.r49_83, l.r49_85, l.r49_86, l.r49_87, l.r49_88, l.r49_89, l.s49, l.s50, l.s51, l.s52, l.s53, l.s54, l.s55, l.s56, l.s57, l.s58, l.s59, l.s60, l.s61, l.s62, l.s63, l.s64, l.s65, l.s66, l.s67, l.s68, l.s69, l.s70, l.s71, l.s72, l.s73, l.s74, l.s75, l.s76, l.s77, l.s78, l.s79, l.s80, l.s81, l.s82, l.s83, l.s84, l.s85, l.s86, l.s87, l.s88, l.s89, l.s90, l.s91, l.s92, l.s93, l.s94, l.s95, l.s96, l.s97, l.s98, l.s99, l.s100, l.s101, l.s102, l.s103, l.s104, l.s105, l.s106, e1, Int32.le_refl, q_atne, e2]
        exact ⟨mx3, sc3⟩
      · rintro G j x h3 hj ⟨rfl, mx, sc, e1, e2, e3⟩ ih
        have m := mx.1
        have l := m.1
        have lj : ¬ nI B.2.2.length ≤ nI j := by rw [nI_leI (by omega) (by omega)]; omega
        have cj : (nI j).toNatClampNeg = j := nI_clamp (by omega)
        have ej : nI j + 1 = nI (j + 1) := nI_add _ 1
        have pl : B.2.2.getD j 0 < nW w := q6 _ (getD_in hj)
        have cp : (nI (B.2.2.getD j 0)).toNatClampNeg = B.2.2.getD j 0 := nI_clamp (by omega)
        have e92 : hI h3 92 (B.2.2.getD j 0) = hI w 92 (B.2.2.getD j 0) := by rw [m.i92, wents_I _ _ _ (by decide)]; rfl
        have mx3 := mx.wI 97 j (hI w 92 (B.2.2.getD j 0)) (by omega) (by omega)
        have sc3 := sc.wI 97 j (hI w 92 (B.2.2.getD j 0)) (by omega) (by omega)
        have ih := ih (nI (j + 1)) (wI h3 97 j (hI w 92 (B.2.2.getD j 0))) ⟨rfl, mx3, sc3, e1, e2, e3⟩
        simp (config := {decide := true, maxSteps := 5000000}) (disch := omega) only [↓reduceIte, ↓wp_some, ↓wp_none, wp_ite, ↓wp_cl, ↓wp_rz, ↓wp_nz, ↓wp_nzL, ↓wp_fI, ↓wp_fL, ↓wp_fR, ↓wp_pI, ↓wp_pL, ↓wp_pR, ↓wp_pZ, ↓wp_aI, ↓wp_aL, ↓wp_aR, ↓wp_bI, ↓wp_bL, ↓wp_bR, ↓wp_rO, ↓wp_cO, ↓wp_nO, ↓wp_iO, ↓wp_tbI, ↓wp_tbL, ↓wp_jn, q_okT, q_okA, q_gI, q_gL, q_gR, q_sI, q_sL, q_sR, q_SI, q_SL, q_SR, q_IL, q_IR, q_LI, q_LR, q_RI, q_RL, List.contains_cons, List.contains_nil, Nat.reduceBEq, Nat.reduceEqDiff, beq_self_eq_true, Bool.or_false, Bool.false_or, Bool.true_or, Bool.or_true, Bool.and_true, Bool.true_and, Bool.false_and, Bool.and_false, if_true, if_false, Bool.false_eq_true, true_and, and_true, false_and, and_false, and_self, not_true, not_false_iff, reduceCtorEq, forall_const, false_imp_iff, true_imp_iff, true_or, or_true, false_or, or_false, l.r49_2, l.r49_4, l.r49_5, l.r49_6, l.r49_7, l.r49_8, l.r49_9, l.r49_10, l.r49_12, l.r49_14, l.r49_15, l.r49_16, l.r49_18, l.r49_19, l.r49_20, l.r49_21, l.r49_22, l.r49_23, l.r49_24, l.r49_34, l.r49_35, l.r49_36, l.r49_37, l.r49_38, l.r49_39, l.r49_40, l.r49_41, l.r49_42, l.r49_43, l.r49_44, l.r49_46, l.r49_47, l.r49_48, l.r49_49, l.r49_50, l.r49_51, l.r49_59, l.r49_60, l.r49_61, l.r49_62, l.r49_63, l.r49_64, l.r49_66, l.r49_67, l.r49_68, l.r49_69, l.r49_70, l.r49_74, l.r49_80, l.r49_81, l.r49_82, l.r49_83, l.r49_85, l.r49_86, l.r49_87, l.r49_88, l.r49_89, l.s49, l.s50, l.s51, l.s52, l.s53, l.s54, l.s55, l.s56, l.s57, l.s58, l.s59, l.s60, l.s61, l.s62, l.s63, l.s64, l.s65, l.s66, l.s67, l.s68, l.s69, l.s70, l.s71, l.s72, l.s73, l.s74, l.s75, l.s76, l.s77, l.s78, l.s79, l.s80, l.s81, l.s82, l.s83, l.s84, l.s85, l.s86, l.s87, l.s88, l.s89, l.s90, l.s91, l.s92, l.s93, l.s94, l.s95, l.s96, l.s97, l.s98, l.s99, l.s100, l.s101, l.s102, l.s103, l.s104, l.s105, l.s106, e1, lj, cj, e3 j hj, cp, e92, ej, nI_neg, dle, decide_false, Bool.not_false]
        exact ih
  · simp (config := {decide := true, maxSteps := 5000000}) (disch := omega) only [↓reduceIte, ↓wp_some, ↓wp_none, wp_ite, ↓wp_cl, ↓wp_rz, ↓wp_nz, ↓wp_nzL, ↓wp_fI, ↓wp_fL, ↓wp_fR, ↓wp_pI, ↓wp_pL, ↓wp_pR, ↓wp_pZ, ↓wp_aI, ↓wp_aL, ↓wp_aR, ↓wp_bI, ↓wp_bL, ↓wp_bR, ↓wp_rO, ↓wp_cO, ↓wp_nO, ↓wp_iO, ↓wp_tbI, ↓wp_tbL, ↓wp_jn, q_okT, q_okA, q_gI, q_gL, q_gR, q_sI, q_sL, q_sR, q_SI, q_SL, q_SR, q_IL, q_IR, q_LI, q_LR, q_RI, q_RL, List.contains_cons, List.contains_nil, Nat.reduceBEq, Nat.reduceEqDiff, beq_self_eq_true, Bool.or_false, Bool.false_or, Bool.true_or, Bool.or_true, Bool.and_true, Bool.true_and, Bool.false_and, Bool.and_false, if_true, if_false, Bool.false_eq_true, true_and, and_true, false_and, and_false, and_self, not_true, not_false_iff, reduceCtorEq, forall_const, false_imp_iff, true_imp_iff, true_or, or_true, false_or, or_false, l.r49_2, l.r49_4, l.r49_5, l.r49_6, l.r49_7, l.r49_8, l.r49_9, l.r49_10, l.r49_12, l.r49_14, l.r49_15, l.r49_16, l.r49_18, l.r49_19, l.r49_20, l.r49_21, l.r49_22, l.r49_23, l.r49_24, l.r49_34, l.r49_35, l.r49_36, l.r49_37, l.r49_38, l.r49_39, l.r49_40, l.r49_41, l.r49_42, l.r49_43, l.r49_44, l.r49_46, l.r49_47, l.r49_48, l.r49_49, l.r49_50, l.r49_51, l.r49_59, l.r49_60, l.r49_61, l.r49_62, l.r49_63, l.r49_64, l.r49_66, l.r49_67, l.r49_68, l.r49_69, l.r49_70, l.r49_74, l.r49_80, l.r49_81, l.r49_82, l.r49_83, l.r49_85, l.r49_86, l.r49_87, l.r49_88, l.r49_89, l.s49, l.s50, l.s51, l.s52, l.s53, l.s54, l.s55, l.s56, l.s57, l.s58, l.s59, l.s60, l.s61, l.s62, l.s63, l.s64, l.s65, l.s66, l.s67, l.s68, l.s69, l.s70, l.s71, l.s72, l.s73, l.s74, l.s75, l.s76, l.s77, l.s78, l.s79, l.s80, l.s81, l.s82, l.s83, l.s84, l.s85, l.s86, l.s87, l.s88, l.s89, l.s90, l.s91, l.s92, l.s93, l.s94, l.s95, l.s96, l.s97, l.s98, l.s99, l.s100, l.s101, l.s102, l.s103, l.s104, l.s105, l.s106, wp_use (t_X12_isWalk m _ _), z]
    exact ⟨mx, sc⟩
