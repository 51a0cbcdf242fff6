/-! rule: the class makes a rule of the tape -/
theorem t_X8_copyCode {h : AH} (l : Lay h) {n k : Nat} (e10 : hI h 9 10 = nI n) (hn : n ≤ 161) (hk : k < 20) : wp (f_X8_copyCode (some 9) (some 18) (nI (161 * k)) h) (fun v h' => v = nI n ∧ h' = rwI h 18 (va_cpy (hI h 14) (hI h 18) 0 (161 * k) n)) := by
  have s18 : (hS h)[18]? = some (20, 3220) := l.s18
  have s14 : (hS h)[14]? = some (20, 161) := l.s14
  have g1 : ¬ nI (161 * k) < 0 := nI_pos (by omega)
  have sb : nI 3220 - nI n = nI (3220 - n) := nI_sub (by omega)
  have g2 : nI (161 * k) ≤ nI (3220 - n) := by rw [nI_leI (by omega) (by omega)]; omega
  have cp : ∀ (K : AH → Option (Int32 × AH)) (Q : Int32 → AH → Prop), wp (cpI h (some 14) 0 (some 18) (nI (161 * k)) (nI n) K) Q = wp (K (rwI h 18 (va_cpy (hI h 14) (hI h 18) 0 (161 * k) n))) Q := fun K Q => wp_cpI s14 s18 (i := 0) (by omega) (by omega) (by omega) (by omega) K Q
  have l2 : Lay (rwI h 18 (va_cpy (hI h 14) (hI h 18) 0 (161 * k) n)) := l
  have f9 : hI (rwI h 18 (va_cpy (hI h 14) (hI h 18) 0 (161 * k) n)) 9 10 = nI n := by rw [q_IrI, if_neg (by decide)]; exact e10
  unfold f_X8_copyCode
  simp (config := {decide := true, maxSteps := 5000000}) (disch := omega) only [↓reduceIte, ↓wp_some, ↓wp_none, wp_ite, ↓wp_cl, ↓wp_rz, ↓wp_nz, ↓wp_nzL, ↓wp_fI, ↓wp_fL, ↓wp_fR, ↓wp_pI, ↓wp_pL, ↓wp_pR, ↓wp_pZ, ↓wp_aI, ↓wp_aL, ↓wp_aR, ↓wp_bI, ↓wp_bL, ↓wp_bR, ↓wp_rO, ↓wp_cO, ↓wp_nO, ↓wp_iO, ↓wp_tbI, ↓wp_tbL, ↓wp_jn, q_okT, q_okA, q_gI, q_gL, q_gR, q_sI, q_sL, q_sR, q_SI, q_SL, q_SR, q_IL, q_IR, q_LI, q_LR, q_RI, q_RL, List.contains_cons, List.contains_nil, Nat.reduceBEq, Nat.reduceEqDiff, beq_self_eq_true, Bool.or_false, Bool.false_or, Bool.true_or, Bool.or_true, Bool.and_true, Bool.true_and, Bool.false_and, Bool.and_false, if_true, if_false, Bool.false_eq_true, true_and, and_true, false_and, and_false, and_self, not_true, not_false_iff, reduceCtorEq, forall_const, false_imp_iff, true_imp_iff, true_or, or_true, false_or, or_false, l.r0_0, l.r0_1, l.r0_2, l.r0_3, l.r0_4, l.r0_5, l.r1_1, l.r1_2, l.r1_4, l.r1_6, l.r1_7, l.r1_8, l.r8_0, l.r8_3, l.r8_4, l.r8_5, l.r8_6, l.r8_7, l.r8_8, l.r8_9, l.r9_1, l.r9_2, l.r9_3, l.r9_4, l.r9_9, l.r21_0, l.r21_1, l.r21_3, l.r21_4, l.r21_5, l.r21_6, l.r21_7, l.r21_8, l.r28_3, l.r28_4, l.r28_5, l.r28_6, l.r28_7, l.r28_9, l.r35_0, l.r35_1, l.r35_2, l.r35_3, l.r35_4, l.r35_5, l.r36_4, l.r38_4, l.r40_4, l.r42_4, l.r44_4, l.r46_4, l.s0, l.s1, l.s2, l.s3, l.s4, l.s5, l.s6, l.s7, l.s8, l.s9, l.s10, l.s11, l.s12, l.s13, l.s14, l.s15, l.s16, l.s17, l.s18, l.s19, l.s20, l.s21, l.s22, l.s23, l.s24, l.s25, l.s26, l.s27, l.s28, l.s29, l.s30, l.s31, l.s32, l.s33, l.s34, l.s35, l.s36, l.s37, l.s38, l.s39, l.s40, l.s41, l.s42, l.s43, l.s44, l.s45, l.s46, l.s47, l.s48, g1, wp_aN s18, e10, sb, g2, cp, l2.s9, f9]
def ruleW (w : AH) (use d : Int32) : AH := wI (wI (wI (wI (wI w 49 25 0) 69 (nT w) use) 70 (nT w) (hI w 49 1)) 71 (nT w) d) 49 33 (nI (nT w + 1))
def ruleP (w : AH) (P : Nat → Prog) (q : Prog) (t : Nat) : Prog := if t = nT w then q else P t
def s_rule (w : AH) (P : Nat → Prog) (use d : Int32) : Int32 × AH × (Nat → Prog) := if isUse_ use = true ∧ 0 ≤ d ∧ d ≤ 999 then (if nT w = 20 then (-3, w, P) else match tkT w with
  | .error p => (-100 - nI (plc w p), wI w 49 25 0, P)
  | .ok (_, q) => (nI (nT w), ruleW w use d, ruleP w P q)) else (-1, w, P)
theorem RC.tape0 {h w : AH} {P : Nat → Prog} {ad : Nat → Nat} (R : RC h w P ad) : RC (wI h 9 0 0) (wI w 49 25 0) P ad := by
  have l1 : Lay (wI h 9 0 0) := R.l.wI _ _ _
  have f : ∀ a, a ≠ 9 → hI (wI h 9 0 0) a = hI h a := fun a h1 => q_ne h1
  have f9 : hI (wI h 9 0 0) 9 0 = 0 := q_at
  have o : ∀ a, a ≠ 49 → hI (wI w 49 25 0) a = hI w a := fun a h1 => q_ne h1
  have o49 : ∀ c, c ≠ 25 → hI (wI w 49 25 0) 49 c = hI w 49 c := fun c hc => by rw [q_II, if_neg (by omega)]
  have o25 : hI (wI w 49 25 0) 49 25 = 0 := q_at
  have eS : hS (wI h 9 0 0) = hS h := rfl
  have eR : hR (wI h 9 0 0) = hR h := rfl
  have eL : hL (wI h 9 0 0) = hL h := rfl
  have wL : hL (wI w 49 25 0) = hL w := rfl
  generalize wI h 9 0 0 = h1 at *
  generalize wI w 49 25 0 = w1 at *
  refine R.fix l1 eS (by rw [f 1 (by omega)]) (fun a ha => f a (by omega)) (by rw [eR]) (fun a ha => by rw [eR]) ?_ ?_ ?_ ?_ ?_ ?_ ?_ ?_ ?_ ?_
  · unfold sigB; simp (config := {maxSteps := 5000000}) (disch := omega) only [o, o49]
  · unfold sigD; simp (config := {maxSteps := 5000000}) (disch := omega) only [o, o49]
  · have := R.g; unfold Rg at *; simp (config := {maxSteps := 5000000}) (disch := omega) only [f, o, o49]; exact this
  · have := R.mm; unfold Rm at *; simp (config := {maxSteps := 5000000}) (disch := omega) only [f, o, o49]; exact this
  · have := R.ll; unfold Rl at *; simp (config := {maxSteps := 5000000}) (disch := omega) only [f, o, o49]; exact this
  · have := R.rr; unfold Rr nT at *; simp (config := {maxSteps := 5000000}) (disch := omega) only [f, o, o49]; exact this
  · refine ⟨by rw [f9, o25], fun i hi => ?_⟩
    rw [f 10 (by omega), o 68 (by omega)]
    exact R.tt.2 i hi
  · have := R.kk; unfold Rk nW at *; simp (config := {maxSteps := 5000000}) (disch := omega) only [f, o, o49, eR]; exact this
  · intro s hs
    have := R.ss s hs
    unfold shelfAt_ at *
    simp (config := {maxSteps := 5000000}) (disch := omega) only [f, o, eR, eL, wL]; exact this
  · have := R.aa; unfold Ra at *; simp (config := {maxSteps := 5000000}) (disch := omega) only [f, o, o49]; exact this
/-- the class's cells behind a rule that was made -/
def ruleH (h : AH) (t n : Nat) (use td d : Int32) : AH := wI (wI (rwI (wI (wI (wI (wI h 9 0 0) 15 t use) 16 t td) 17 t d) 18 (va_cpy (hI h 14) (hI h 18) 0 (161 * t) n)) 19 t (nI n)) 8 1 (nI (t + 1))
theorem RC.rul {h w : AH} {P : Nat → Prog} {ad : Nat → Nat} (R : RC h w P ad) (n : WN w) (ht : nT w < 20) (use d : Int32) {q : Prog} (hq : (codeP q).length ≤ 161) (ec : ∀ k, k < (codeP q).length → hI h 14 k = encI ((codeP q).getD k (0, 0))) : RC (ruleH h (nT w) (codeP q).length use (hI w 49 1) d) (ruleW w use d) (ruleP w P q) ad := by
  have l1 : Lay (ruleH h (nT w) (codeP q).length use (hI w 49 1) d) := R.l
  have f : ∀ a, a ≠ 8 → a ≠ 9 → a ≠ 15 → a ≠ 16 → a ≠ 17 → a ≠ 18 → a ≠ 19 → hI (ruleH h (nT w) (codeP q).length use (hI w 49 1) d) a = hI h a := by
    intro a h1 h2 h3 h4 h5 h6 h7
    unfold ruleH
    rw [q_ne h1, q_ne h7]
    funext k
    rw [q_IrI, if_neg h6, q_ne h5, q_ne h4, q_ne h3, q_ne h2]
  have f8 : hI (ruleH h (nT w) (codeP q).length use (hI w 49 1) d) 8 1 = nI (nT w + 1) := q_at
  have f9 : hI (ruleH h (nT w) (codeP q).length use (hI w 49 1) d) 9 0 = 0 := by
    unfold ruleH
    rw [q_ne (by decide), q_ne (by decide), q_IrI, if_neg (by decide), q_ne (by decide), q_ne (by decide), q_ne (by decide), q_at]
  have f15 : ∀ k, hI (ruleH h (nT w) (codeP q).length use (hI w 49 1) d) 15 k = if k = nT w then use else hI h 15 k := by
    intro k
    unfold ruleH
    rw [q_ne (by decide), q_ne (by decide), q_IrI, if_neg (by decide), q_ne (by decide), q_ne (by decide), q_II, q_ne (by decide)]
    simp
  have f16 : ∀ k, hI (ruleH h (nT w) (codeP q).length use (hI w 49 1) d) 16 k = if k = nT w then hI w 49 1 else hI h 16 k := by
    intro k
    unfold ruleH
    rw [q_ne (by decide), q_ne (by decide), q_IrI, if_neg (by decide), q_ne (by decide), q_II, q_ne (by decide), q_ne (by decide)]
    simp
  have f17 : ∀ k, hI (ruleH h (nT w) (codeP q).length use (hI w 49 1) d) 17 k = if k = nT w then d else hI h 17 k := by
    intro k
    unfold ruleH
    rw [q_ne (by decide), q_ne (by decide), q_IrI, if_neg (by decide), q_II, q_ne (by decide), q_ne (by decide), q_ne (by decide)]
    simp
  have f18 : ∀ k, hI (ruleH h (nT w) (codeP q).length use (hI w 49 1) d) 18 k = va_cpy (hI h 14) (hI h 18) 0 (161 * nT w) (codeP q).length k := by
    intro k
    unfold ruleH
    rw [q_ne (by decide), q_ne (by decide), q_IrI, if_pos rfl]
  have f19 : ∀ k, hI (ruleH h (nT w) (codeP q).length use (hI w 49 1) d) 19 k = if k = nT w then nI (codeP q).length else hI h 19 k := by
    intro k
    unfold ruleH
    rw [q_ne (by decide), q_II, q_IrI, if_neg (show ¬ (19 : Nat) = 18 by decide), q_ne (by decide), q_ne (by decide), q_ne (by decide), q_ne (by decide)]
    simp
  have o : ∀ a, a ≠ 49 → a ≠ 69 → a ≠ 70 → a ≠ 71 → hI (ruleW w use d) a = hI w a := by
    intro a h1 h2 h3 h4
    unfold ruleW
    rw [q_ne h1, q_ne h4, q_ne h3, q_ne h2, q_ne h1]
  have o49 : ∀ c, c ≠ 25 → c ≠ 33 → hI (ruleW w use d) 49 c = hI w 49 c := by
    intro c h1 h2
    unfold ruleW
    rw [q_II, if_neg (by omega), q_ne (by decide), q_ne (by decide), q_ne (by decide), q_II, if_neg (by omega)]
  have o25 : hI (ruleW w use d) 49 25 = 0 := by
    unfold ruleW
    rw [q_II, if_neg (by omega), q_ne (by decide), q_ne (by decide), q_ne (by decide), q_at]
  have o33 : hI (ruleW w use d) 49 33 = nI (nT w + 1) := q_at
  have o69 : ∀ k, hI (ruleW w use d) 69 k = if k = nT w then use else hI w 69 k := by
    intro k
    unfold ruleW
    rw [q_ne (by decide), q_ne (by decide), q_ne (by decide), q_II, q_ne (by decide)]
    simp
  have o70 : ∀ k, hI (ruleW w use d) 70 k = if k = nT w then hI w 49 1 else hI w 70 k := by
    intro k
    unfold ruleW
    rw [q_ne (by decide), q_ne (by decide), q_II, q_ne (by decide), q_ne (by decide)]
    simp
  have o71 : ∀ k, hI (ruleW w use d) 71 k = if k = nT w then d else hI w 71 k := by
    intro k
    unfold ruleW
    rw [q_ne (by decide), q_II, q_ne (by decide), q_ne (by decide), q_ne (by decide)]
    simp
  have eS : hS (ruleH h (nT w) (codeP q).length use (hI w 49 1) d) = hS h := rfl
  have eR : hR (ruleH h (nT w) (codeP q).length use (hI w 49 1) d) = hR h := rfl
  have eL : hL (ruleH h (nT w) (codeP q).length use (hI w 49 1) d) = hL h := rfl
  have wL : hL (ruleW w use d) = hL w := rfl
  generalize ruleH h (nT w) (codeP q).length use (hI w 49 1) d = h1 at *
  generalize ruleW w use d = w1 at *
  have nT1 : nT w1 = nT w + 1 := by unfold nT; rw [o33, nI_clamp (by omega)]; rfl
  refine R.fix l1 eS (by rw [f 1 (by omega) (by omega) (by omega) (by omega) (by omega) (by omega) (by omega)]) (fun a ha => f a (by omega) (by omega) (by omega) (by omega) (by omega) (by omega) (by omega)) (by rw [eR]) (fun a ha => by rw [eR]) ?_ ?_ ?_ ?_ ?_ ?_ ?_ ?_ ?_ ?_
  · unfold sigB; simp (config := {maxSteps := 5000000}) (disch := omega) only [o, o49]
  · unfold sigD; simp (config := {maxSteps := 5000000}) (disch := omega) only [o, o49]
  · have := R.g; unfold Rg at *; simp (config := {maxSteps := 5000000}) (disch := omega) only [f, o, o49]; exact this
  · have := R.mm; unfold Rm at *; simp (config := {maxSteps := 5000000}) (disch := omega) only [f, o, o49]; exact this
  · have := R.ll; unfold Rl at *; simp (config := {maxSteps := 5000000}) (disch := omega) only [f, o, o49]; exact this
  · obtain ⟨r1, r15, r16, r17, rt⟩ := R.rr
    refine ⟨by rw [f8, o33], by funext k; rw [f15, o69, r15], by funext k; rw [f16, o70, r16], by funext k; rw [f17, o71, r17], fun t htt => ?_⟩
    rw [nT1] at htt
    unfold ruleP
    by_cases z : t = nT w
    · have le : (encP q).length = (codeP q).length := by unfold encP; rw [List.length_map]
      rw [if_pos z, le]
      refine ⟨hq, by rw [f19, if_pos z], fun k hk => ?_⟩
      rw [f18, z, pk_cpy_in (by omega) (by omega), show 0 + (161 * nT w + k - 161 * nT w) = k by omega, ec k hk]
      unfold encP
      rw [List.getD_eq_getElem?_getD, List.getD_eq_getElem?_getD, List.getElem?_map, List.getElem?_eq_getElem hk]
      rfl
    · rw [if_neg z]
      obtain ⟨q1, q2, q3⟩ := rt t (by omega)
      refine ⟨q1, by rw [f19, if_neg z]; exact q2, fun k hk => ?_⟩
      rw [f18, pk_cpy_out (by omega)]
      exact q3 k hk
  · refine ⟨by rw [f9, o25], fun i hi => ?_⟩
    rw [f 10 (by omega) (by omega) (by omega) (by omega) (by omega) (by omega) (by omega), o 68 (by omega) (by omega) (by omega) (by omega)]
    exact R.tt.2 i hi
  · have := R.kk; unfold Rk nW at *; simp (config := {maxSteps := 5000000}) (disch := omega) only [f, o, o49, eR]; exact this
  · intro s hs
    have := R.ss s hs
    unfold shelfAt_ at *
    simp (config := {maxSteps := 5000000}) (disch := omega) only [f, o, eR, eL, wL]; exact this
  · have := R.aa; unfold Ra at *; simp (config := {maxSteps := 5000000}) (disch := omega) only [f, o, o49]; exact this
theorem SM.rul {h h2 : AH} (s : SM h h2) (t n : Nat) (use td d : Int32) : SM h (ruleH h2 t n use td d) := by
  obtain ⟨M, e⟩ := s
  exact ⟨M, by rw [← e]; rfl⟩
set_option maxHeartbeats 4000000 in
theorem c_rule {h w : AH} {P : Nat → Prog} {ad : Nat → Nat} (R : RC h w P ad) (n : WN w) (F : WF1 w) (Y : WBy w) (use d : Int32) : wp (f_X11_rule (some 0) use d h) (fun v h' => v = (s_rule w P use d).1 ∧ RC h' (s_rule w P use d).2.1 (s_rule w P use d).2.2 ad ∧ SM h h') := by
  have l := R.l
  have t20 := n.t20
  have e1 : hI h 8 1 = nI (nT w) := by rw [R.md]; exact n.t
  have full : wp (f_X6_isFull (some 8) h) (fun r h' => r = (if nT w = 20 then 1 else 0) ∧ h' = h) := by
    unfold f_X6_isFull
    by_cases c : nT w = 20
    · have g : ¬ nI (nT w) < (20 : Int32) := by rw [c]; decide
      simp (config := {decide := true, maxSteps := 5000000}) (disch := omega) only [↓reduceIte, ↓wp_some, ↓wp_none, wp_ite, ↓wp_cl, ↓wp_rz, ↓wp_nz, ↓wp_nzL, ↓wp_fI, ↓wp_fL, ↓wp_fR, ↓wp_pI, ↓wp_pL, ↓wp_pR, ↓wp_pZ, ↓wp_aI, ↓wp_aL, ↓wp_aR, ↓wp_bI, ↓wp_bL, ↓wp_bR, ↓wp_rO, ↓wp_cO, ↓wp_nO, ↓wp_iO, ↓wp_tbI, ↓wp_tbL, ↓wp_jn, q_okT, q_okA, q_gI, q_gL, q_gR, q_sI, q_sL, q_sR, q_SI, q_SL, q_SR, q_IL, q_IR, q_LI, q_LR, q_RI, q_RL, List.contains_cons, List.contains_nil, Nat.reduceBEq, Nat.reduceEqDiff, beq_self_eq_true, Bool.or_false, Bool.false_or, Bool.true_or, Bool.or_true, Bool.and_true, Bool.true_and, Bool.false_and, Bool.and_false, if_true, if_false, Bool.false_eq_true, true_and, and_true, false_and, and_false, and_self, not_true, not_false_iff, reduceCtorEq, forall_const, false_imp_iff, true_imp_iff, true_or, or_true, false_or, or_false, l.r0_0, l.r0_1, l.r0_2, l.r0_3, l.r0_4, l.r0_5, l.r1_1, l.r1_2, l.r1_4, l.r1_6, l.r1_7, l.r1_8, l.r8_0, l.r8_3, l.r8_4, l.r8_5, l.r8_6, l.r8_7, l.r8_8, l.r8_9, l.r9_1, l.r9_2, l.r9_3, l.r9_4, l.r9_9, l.r21_0, l.r21_1, l.r21_3, l.r21_4, l.r21_5, l.r21_6, l.r21_7, l.r21_8, l.r28_3, l.r28_4, l.r28_5, l.r28_6, l.r28_7, l.r28_9, l.r35_0, l.r35_1, l.r35_2, l.r35_3, l.r35_4, l.r35_5, l.r36_4, l.r38_4, l.r40_4, l.r42_4, l.r44_4, l.r46_4, l.s0, l.s1, l.s2, l.s3, l.s4, l.s5, l.s6, l.s7, l.s8, l.s9, l.s10, l.s11, l.s12, l.s13, l.s14, l.s15, l.s16, l.s17, l.s18, l.s19, l.s20, l.s21, l.s22, l.s23, l.s24, l.s25, l.s26, l.s27, l.s28, l.s29, l.s30, l.s31, l.s32, l.s33, l.s34, l.s35, l.s36, l.s37, l.s38, l.s39, l.s40, l.s41, l.s42, l.s43, l.s44, l.s45, l.s46, l.s47, l.s48, e1, g, c]
    · have g : nI (nT w) < (20 : Int32) := by rw [show (20 : Int32) = nI 20 from rfl, nI_ltI (by omega) (by omega)]; omega
      simp (config := {decide := true, maxSteps := 5000000}) (disch := omega) only [↓reduceIte, ↓wp_some, ↓wp_none, wp_ite, ↓wp_cl, ↓wp_rz, ↓wp_nz, ↓wp_nzL, ↓wp_fI, ↓wp_fL, ↓wp_fR, ↓wp_pI, ↓wp_pL, ↓wp_pR, ↓wp_pZ, ↓wp_aI, ↓wp_aL, ↓wp_aR, ↓wp_bI, ↓wp_bL, ↓wp_bR, ↓wp_rO, ↓wp_cO, ↓wp_nO, ↓wp_iO, ↓wp_tbI, ↓wp_tbL, ↓wp_jn, q_okT, q_okA, q_gI, q_gL, q_gR, q_sI, q_sL, q_sR, q_SI, q_SL, q_SR, q_IL, q_IR, q_LI, q_LR, q_RI, q_RL, List.contains_cons, List.contains_nil, Nat.reduceBEq, Nat.reduceEqDiff, beq_self_eq_true, Bool.or_false, Bool.false_or, Bool.true_or, Bool.or_true, Bool.and_true, Bool.true_and, Bool.false_and, Bool.and_false, if_true, if_false, Bool.false_eq_true, true_and, and_true, false_and, and_false, and_self, not_true, not_false_iff, reduceCtorEq, forall_const, false_imp_iff, true_imp_iff, true_or, or_true, false_or, or_false, l.r0_0, l.r0_1, l.r0_2, l.r0_3, l.r0_4, l.r0_5, l.r1_1, l.r1_2, l.r1_4, l.r1_6, l.r1_7, l.r1_8, l.r8_0, l.r8_3, l.r8_4, l.r8_5, l.r8_6, l.r8_7, l.r8_8, l.r8_9, l.r9_1, l.r9_2, l.r9_3, l.r9_4, l.r9_9, l.r21_0, l.r21_1, l.r21_3, l.r21_4, l.r21_5, l.r21_6, l.r21_7, l.r21_8, l.r28_3, l.r28_4, l.r28_5, l.r28_6, l.r28_7, l.r28_9, l.r35_0, l.r35_1, l.r35_2, l.r35_3, l.r35_4, l.r35_5, l.r36_4, l.r38_4, l.r40_4, l.r42_4, l.r44_4, l.r46_4, l.s0, l.s1, l.s2, l.s3, l.s4, l.s5, l.s6, l.s7, l.s8, l.s9, l.s10, l.s11, l.s12, l.s13, l.s14, l.s15, l.s16, l.s17, l.s18, l.s19, l.s20, l.s21, l.s22, l.s23, l.s24, l.s25, l.s26, l.s27, l.s28, l.s29, l.s30, l.s31, l.s32, l.s33, l.s34, l.s35, l.s36, l.s37, l.s38, l.s39, l.s40, l.s41, l.s42, l.s43, l.s44, l.s45, l.s46, l.s47, l.s48, e1, g, c]
  unfold f_X11_rule s_rule
  by_cases z : isUse_ use = true
  · by_cases y : 0 ≤ d ∧ d ≤ 999
    · by_cases c : nT w = 20
      · rw [if_pos ⟨z, y⟩, if_pos c]
        rw [if_pos c] at full
        simp (config := {decide := true, maxSteps := 5000000}) (disch := omega) only [↓reduceIte, ↓wp_some, ↓wp_none, wp_ite, ↓wp_cl, ↓wp_rz, ↓wp_nz, ↓wp_nzL, ↓wp_fI, ↓wp_fL, ↓wp_fR, ↓wp_pI, ↓wp_pL, ↓wp_pR, ↓wp_pZ, ↓wp_aI, ↓wp_aL, ↓wp_aR, ↓wp_bI, ↓wp_bL, ↓wp_bR, ↓wp_rO, ↓wp_cO, ↓wp_nO, ↓wp_iO, ↓wp_tbI, ↓wp_tbL, ↓wp_jn, q_okT, q_okA, q_gI, q_gL, q_gR, q_sI, q_sL, q_sR, q_SI, q_SL, q_SR, q_IL, q_IR, q_LI, q_LR, q_RI, q_RL, List.contains_cons, List.contains_nil, Nat.reduceBEq, Nat.reduceEqDiff, beq_self_eq_true, Bool.or_false, Bool.false_or, Bool.true_or, Bool.or_true, Bool.and_true, Bool.true_and, Bool.false_and, Bool.and_false, if_true, if_false, Bool.false_eq_true, true_and, and_true, false_and, and_false, and_self, not_true, not_false_iff, reduceCtorEq, forall_const, false_imp_iff, true_imp_iff, true_or, or_true, false_or, or_false, l.r0_0, l.r0_1, l.r0_2, l.r0_3, l.r0_4, l.r0_5, l.r1_1, l.r1_2, l.r1_4, l.r1_6, l.r1_7, l.r1_8, l.r8_0, l.r8_3, l.r8_4, l.r8_5, l.r8_6, l.r8_7, l.r8_8, l.r8_9, l.r9_1, l.r9_2, l.r9_3, l.r9_4, l.r9_9, l.r21_0, l.r21_1, l.r21_3, l.r21_4, l.r21_5, l.r21_6, l.r21_7, l.r21_8, l.r28_3, l.r28_4, l.r28_5, l.r28_6, l.r28_7, l.r28_9, l.r35_0, l.r35_1, l.r35_2, l.r35_3, l.r35_4, l.r35_5, l.r36_4, l.r38_4, l.r40_4, l.r42_4, l.r44_4, l.r46_4, l.s0, l.s1, l.s2, l.s3, l.s4, l.s5, l.s6, l.s7, l.s8, l.s9, l.s10, l.s11, l.s12, l.s13, l.s14, l.s15, l.s16, l.s17, l.s18, l.s19, l.s20, l.s21, l.s22, l.s23, l.s24, l.s25, l.s26, l.s27, l.s28, l.s29, l.s30, l.s31, l.s32, l.s33, l.s34, l.s35, l.s36, l.s37, l.s38, l.s39, l.s40, l.s41, l.s42, l.s43, l.s44, l.s45, l.s46, l.s47, l.s48, wp_use (t_X11_isUse _ _), wp_use (t_X11_isDay _ _), z, y, wp_use full]
        exact ⟨R, SM.refl h⟩
      · rw [if_pos ⟨z, y⟩, if_neg c]
        rw [if_neg c] at full
        simp (config := {decide := true, maxSteps := 5000000}) (disch := omega) only [↓reduceIte, ↓wp_some, ↓wp_none, wp_ite, ↓wp_cl, ↓wp_rz, ↓wp_nz, ↓wp_nzL, ↓wp_fI, ↓wp_fL, ↓wp_fR, ↓wp_pI, ↓wp_pL, ↓wp_pR, ↓wp_pZ, ↓wp_aI, ↓wp_aL, ↓wp_aR, ↓wp_bI, ↓wp_bL, ↓wp_bR, ↓wp_rO, ↓wp_cO, ↓wp_nO, ↓wp_iO, ↓wp_tbI, ↓wp_tbL, ↓wp_jn, q_okT, q_okA, q_gI, q_gL, q_gR, q_sI, q_sL, q_sR, q_SI, q_SL, q_SR, q_IL, q_IR, q_LI, q_LR, q_RI, q_RL, List.contains_cons, List.contains_nil, Nat.reduceBEq, Nat.reduceEqDiff, beq_self_eq_true, Bool.or_false, Bool.false_or, Bool.true_or, Bool.or_true, Bool.and_true, Bool.true_and, Bool.false_and, Bool.and_false, if_true, if_false, Bool.false_eq_true, true_and, and_true, false_and, and_false, and_self, not_true, not_false_iff, reduceCtorEq, forall_const, false_imp_iff, true_imp_iff, true_or, or_true, false_or, or_false, l.r0_0, l.r0_1, l.r0_2, l.r0_3, l.r0_4, l.r0_5, l.r1_1, l.r1_2, l.r1_4, l.r1_6, l.r1_7, l.r1_8, l.r8_0, l.r8_3, l.r8_4, l.r8_5, l.r8_6, l.r8_7, l.r8_8, l.r8_9, l.r9_1, l.r9_2, l.r9_3, l.r9_4, l.r9_9, l.r21_0, l.r21_1, l.r21_3, l.r21_4, l.r21_5, l.r21_6, l.r21_7, l.r21_8, l.r28_3, l.r28_4, l.r28_5, l.r28_6, l.r28_7, l.r28_9, l.r35_0, l.r35_1, l.r35_2, l.r35_3, l.r35_4, l.r35_5, l.r36_4, l.r38_4, l.r40_4, l.r42_4, l.r44_4, l.r46_4, l.s0, l.s1, l.s2, l.s3, l.s4, l.s5, l.s6, l.s7, l.s8, l.s9, l.s10, l.s11, l.s12, l.s13, l.s14, l.s15, l.s16, l.s17, l.s18, l.s19, l.s20, l.s21, l.s22, l.s23, l.s24, l.s25, l.s26, l.s27, l.s28, l.s29, l.s30, l.s31, l.s32, l.s33, l.s34, l.s35, l.s36, l.s37, l.s38, l.s39, l.s40, l.s41, l.s42, l.s43, l.s44, l.s45, l.s46, l.s47, l.s48, wp_use (t_X11_isUse _ _), wp_use (t_X11_isDay _ _), z, y, wp_use full]
        have mk : wp (f_X6_make (some 8) use d h) (fun v h' => v = (match tkT w with
  | .error p => (-100 - nI (plc w p), wI w 49 25 0, P)
  | .ok (_, q) => (nI (nT w), ruleW w use d, ruleP w P q)).1 ∧ RC h' (match tkT w with
  | .error p => (-100 - nI (plc w p), wI w 49 25 0, P)
  | .ok (_, q) => (nI (nT w), ruleW w use d, ruleP w P q)).2.1 (match tkT w with
  | .error p => (-100 - nI (plc w p), wI w 49 25 0, P)
  | .ok (_, q) => (nI (nT w), ruleW w use d, ruleP w P q)).2.2 ad ∧ SM h h') := by
          have cm := t_X8_compile R F Y
          unfold f_X6_make
          simp (config := {decide := true, maxSteps := 5000000}) (disch := omega) only [↓reduceIte, ↓wp_some, ↓wp_none, wp_ite, ↓wp_cl, ↓wp_rz, ↓wp_nz, ↓wp_nzL, ↓wp_fI, ↓wp_fL, ↓wp_fR, ↓wp_pI, ↓wp_pL, ↓wp_pR, ↓wp_pZ, ↓wp_aI, ↓wp_aL, ↓wp_aR, ↓wp_bI, ↓wp_bL, ↓wp_bR, ↓wp_rO, ↓wp_cO, ↓wp_nO, ↓wp_iO, ↓wp_tbI, ↓wp_tbL, ↓wp_jn, q_okT, q_okA, q_gI, q_gL, q_gR, q_sI, q_sL, q_sR, q_SI, q_SL, q_SR, q_IL, q_IR, q_LI, q_LR, q_RI, q_RL, List.contains_cons, List.contains_nil, Nat.reduceBEq, Nat.reduceEqDiff, beq_self_eq_true, Bool.or_false, Bool.false_or, Bool.true_or, Bool.or_true, Bool.and_true, Bool.true_and, Bool.false_and, Bool.and_false, if_true, if_false, Bool.false_eq_true, true_and, and_true, false_and, and_false, and_self, not_true, not_false_iff, reduceCtorEq, forall_const, false_imp_iff, true_imp_iff, true_or, or_true, false_or, or_false, l.r0_0, l.r0_1, l.r0_2, l.r0_3, l.r0_4, l.r0_5, l.r1_1, l.r1_2, l.r1_4, l.r1_6, l.r1_7, l.r1_8, l.r8_0, l.r8_3, l.r8_4, l.r8_5, l.r8_6, l.r8_7, l.r8_8, l.r8_9, l.r9_1, l.r9_2, l.r9_3, l.r9_4, l.r9_9, l.r21_0, l.r21_1, l.r21_3, l.r21_4, l.r21_5, l.r21_6, l.r21_7, l.r21_8, l.r28_3, l.r28_4, l.r28_5, l.r28_6, l.r28_7, l.r28_9, l.r35_0, l.r35_1, l.r35_2, l.r35_3, l.r35_4, l.r35_5, l.r36_4, l.r38_4, l.r40_4, l.r42_4, l.r44_4, l.r46_4, l.s0, l.s1, l.s2, l.s3, l.s4, l.s5, l.s6, l.s7, l.s8, l.s9, l.s10, l.s11, l.s12, l.s13, l.s14, l.s15, l.s16, l.s17, l.s18, l.s19, l.s20, l.s21, l.s22, l.s23, l.s24, l.s25, l.s26, l.s27, l.s28, l.s29, l.s30, l.s31, l.s32, l.s33, l.s34, l.s35, l.s36, l.s37, l.s38, l.s39, l.s40, l.s41, l.s42, l.s43, l.s44, l.s45, l.s46, l.s47, l.s48]
          refine wp_mono cm ?_
          rintro v h2 ⟨S, D⟩
          have R2 := R.sd S
          have l := R2.l
          have sm := S.SM
          cases e : tkT w with
          | error p =>
            rw [e] at D
            obtain ⟨hp, rfl⟩ := D
            have g : ¬ nI (plc w p) < 0 := nI_pos (by omega)
            simp (config := {decide := true, maxSteps := 5000000}) (disch := omega) only [↓reduceIte, ↓wp_some, ↓wp_none, wp_ite, ↓wp_cl, ↓wp_rz, ↓wp_nz, ↓wp_nzL, ↓wp_fI, ↓wp_fL, ↓wp_fR, ↓wp_pI, ↓wp_pL, ↓wp_pR, ↓wp_pZ, ↓wp_aI, ↓wp_aL, ↓wp_aR, ↓wp_bI, ↓wp_bL, ↓wp_bR, ↓wp_rO, ↓wp_cO, ↓wp_nO, ↓wp_iO, ↓wp_tbI, ↓wp_tbL, ↓wp_jn, q_okT, q_okA, q_gI, q_gL, q_gR, q_sI, q_sL, q_sR, q_SI, q_SL, q_SR, q_IL, q_IR, q_LI, q_LR, q_RI, q_RL, List.contains_cons, List.contains_nil, Nat.reduceBEq, Nat.reduceEqDiff, beq_self_eq_true, Bool.or_false, Bool.false_or, Bool.true_or, Bool.or_true, Bool.and_true, Bool.true_and, Bool.false_and, Bool.and_false, if_true, if_false, Bool.false_eq_true, true_and, and_true, false_and, and_false, and_self, not_true, not_false_iff, reduceCtorEq, forall_const, false_imp_iff, true_imp_iff, true_or, or_true, false_or, or_false, l.r0_0, l.r0_1, l.r0_2, l.r0_3, l.r0_4, l.r0_5, l.r1_1, l.r1_2, l.r1_4, l.r1_6, l.r1_7, l.r1_8, l.r8_0, l.r8_3, l.r8_4, l.r8_5, l.r8_6, l.r8_7, l.r8_8, l.r8_9, l.r9_1, l.r9_2, l.r9_3, l.r9_4, l.r9_9, l.r21_0, l.r21_1, l.r21_3, l.r21_4, l.r21_5, l.r21_6, l.r21_7, l.r21_8, l.r28_3, l.r28_4, l.r28_5, l.r28_6, l.r28_7, l.r28_9, l.r35_0, l.r35_1, l.r35_2, l.r35_3, l.r35_4, l.r35_5, l.r36_4, l.r38_4, l.r40_4, l.r42_4, l.r44_4, l.r46_4, l.s0, l.s1, l.s2, l.s3, l.s4, l.s5, l.s6, l.s7, l.s8, l.s9, l.s10, l.s11, l.s12, l.s13, l.s14, l.s15, l.s16, l.s17, l.s18, l.s19, l.s20, l.s21, l.s22, l.s23, l.s24, l.s25, l.s26, l.s27, l.s28, l.s29, l.s30, l.s31, l.s32, l.s33, l.s34, l.s35, l.s36, l.s37, l.s38, l.s39, l.s40, l.s41, l.s42, l.s43, l.s44, l.s45, l.s46, l.s47, l.s48, g]
            exact ⟨R2.tape0, sm⟩
          | ok x =>
            obtain ⟨kk, q⟩ := x
            rw [e] at D
            obtain ⟨rfl, hq, e10, ec⟩ := D
            have g : (-1 : Int32) < 0 := by decide
            have e81 : hI h2 8 1 = nI (nT w) := by rw [R2.md]; exact n.t
            have e10' : hI h2 1 0 = hI w 49 1 := R2.td
            have ct : (nI (nT w)).toNatClampNeg = nT w := nI_clamp (by omega)
            have et : nI (nT w) + 1 = nI (nT w + 1) := nI_add _ 1
            have et1 : nI (nT w + 1) - 1 = nI (nT w) := nI_sub (a := nT w + 1) (b := 1) (by omega)
            have em : nI (nT w) * 161 = nI (161 * nT w) := by rw [show (161 : Int32) = nI 161 from rfl, nI_mul, Nat.mul_comm]
            simp (config := {decide := true, maxSteps := 5000000}) (disch := omega) only [↓reduceIte, ↓wp_some, ↓wp_none, wp_ite, ↓wp_cl, ↓wp_rz, ↓wp_nz, ↓wp_nzL, ↓wp_fI, ↓wp_fL, ↓wp_fR, ↓wp_pI, ↓wp_pL, ↓wp_pR, ↓wp_pZ, ↓wp_aI, ↓wp_aL, ↓wp_aR, ↓wp_bI, ↓wp_bL, ↓wp_bR, ↓wp_rO, ↓wp_cO, ↓wp_nO, ↓wp_iO, ↓wp_tbI, ↓wp_tbL, ↓wp_jn, q_okT, q_okA, q_gI, q_gL, q_gR, q_sI, q_sL, q_sR, q_SI, q_SL, q_SR, q_IL, q_IR, q_LI, q_LR, q_RI, q_RL, List.contains_cons, List.contains_nil, Nat.reduceBEq, Nat.reduceEqDiff, beq_self_eq_true, Bool.or_false, Bool.false_or, Bool.true_or, Bool.or_true, Bool.and_true, Bool.true_and, Bool.false_and, Bool.and_false, if_true, if_false, Bool.false_eq_true, true_and, and_true, false_and, and_false, and_self, not_true, not_false_iff, reduceCtorEq, forall_const, false_imp_iff, true_imp_iff, true_or, or_true, false_or, or_false, l.r0_0, l.r0_1, l.r0_2, l.r0_3, l.r0_4, l.r0_5, l.r1_1, l.r1_2, l.r1_4, l.r1_6, l.r1_7, l.r1_8, l.r8_0, l.r8_3, l.r8_4, l.r8_5, l.r8_6, l.r8_7, l.r8_8, l.r8_9, l.r9_1, l.r9_2, l.r9_3, l.r9_4, l.r9_9, l.r21_0, l.r21_1, l.r21_3, l.r21_4, l.r21_5, l.r21_6, l.r21_7, l.r21_8, l.r28_3, l.r28_4, l.r28_5, l.r28_6, l.r28_7, l.r28_9, l.r35_0, l.r35_1, l.r35_2, l.r35_3, l.r35_4, l.r35_5, l.r36_4, l.r38_4, l.r40_4, l.r42_4, l.r44_4, l.r46_4, l.s0, l.s1, l.s2, l.s3, l.s4, l.s5, l.s6, l.s7, l.s8, l.s9, l.s10, l.s11, l.s12, l.s13, l.s14, l.s15, l.s16, l.s17, l.s18, l.s19, l.s20, l.s21, l.s22, l.s23, l.s24, l.s25, l.s26, l.s27, l.s28, l.s29, l.s30, l.s31, l.s32, l.s33, l.s34, l.s35, l.s36, l.s37, l.s38, l.s39, l.s40, l.s41, l.s42, l.s43, l.s44, l.s45, l.s46, l.s47, l.s48, g, q_at, q_ne, q_atne, e81, e10', ct, et, em, nI_neg, dle, decide_false, Bool.not_false]
            have l16 : Lay (wI (wI (wI (wI h2 9 0 0) 15 (nT w) use) 16 (nT w) (hI w 49 1)) 17 (nT w) d) := l
            refine wp_mono (t_X8_copyCode l16 (n := (codeP q).length) (k := nT w) (by rw [q_ne (by decide), q_ne (by decide), q_ne (by decide), q_atne (by decide)]; exact e10) hq (by omega)) ?_
            rintro _ h22 ⟨rfl, rfl⟩
            have e14 : hI (wI (wI (wI (wI h2 9 0 0) 15 (nT w) use) 16 (nT w) (hI w 49 1)) 17 (nT w) d) 14 = hI h2 14 := by rw [q_ne (by decide), q_ne (by decide), q_ne (by decide), q_ne (by decide)]
            have e18 : hI (wI (wI (wI (wI h2 9 0 0) 15 (nT w) use) 16 (nT w) (hI w 49 1)) 17 (nT w) d) 18 = hI h2 18 := by rw [q_ne (by decide), q_ne (by decide), q_ne (by decide), q_ne (by decide)]
            rw [e14, e18]
            have l22 : Lay (rwI (wI (wI (wI (wI h2 9 0 0) 15 (nT w) use) 16 (nT w) (hI w 49 1)) 17 (nT w) d) 18 (va_cpy (hI h2 14) (hI h2 18) 0 (161 * nT w) (codeP q).length)) := l
            have f22 : hI (rwI (wI (wI (wI (wI h2 9 0 0) 15 (nT w) use) 16 (nT w) (hI w 49 1)) 17 (nT w) d) 18 (va_cpy (hI h2 14) (hI h2 18) 0 (161 * nT w) (codeP q).length)) 8 1 = nI (nT w) := by rw [q_IrI, if_neg (by decide), q_ne (by decide), q_ne (by decide), q_ne (by decide), q_ne (by decide)]; exact e81
            have R3 := R2.rul n (by omega) use d hq ec
            have S3 := sm.rul (nT w) (codeP q).length use (hI w 49 1) d
            have l := l22
            simp (config := {decide := true, maxSteps := 5000000}) (disch := omega) only [↓reduceIte, ↓wp_some, ↓wp_none, wp_ite, ↓wp_cl, ↓wp_rz, ↓wp_nz, ↓wp_nzL, ↓wp_fI, ↓wp_fL, ↓wp_fR, ↓wp_pI, ↓wp_pL, ↓wp_pR, ↓wp_pZ, ↓wp_aI, ↓wp_aL, ↓wp_aR, ↓wp_bI, ↓wp_bL, ↓wp_bR, ↓wp_rO, ↓wp_cO, ↓wp_nO, ↓wp_iO, ↓wp_tbI, ↓wp_tbL, ↓wp_jn, q_okT, q_okA, q_gI, q_gL, q_gR, q_sI, q_sL, q_sR, q_SI, q_SL, q_SR, q_IL, q_IR, q_LI, q_LR, q_RI, q_RL, List.contains_cons, List.contains_nil, Nat.reduceBEq, Nat.reduceEqDiff, beq_self_eq_true, Bool.or_false, Bool.false_or, Bool.true_or, Bool.or_true, Bool.and_true, Bool.true_and, Bool.false_and, Bool.and_false, if_true, if_false, Bool.false_eq_true, true_and, and_true, false_and, and_false, and_self, not_true, not_false_iff, reduceCtorEq, forall_const, false_imp_iff, true_imp_iff, true_or, or_true, false_or, or_false, l.r0_0, l.r0_1, l.r0_2, l.r0_3, l.r0_4, l.r0_5, l.r1_1, l.r1_2, l.r1_4, l.r1_6, l.r1_7, l.r1_8, l.r8_0, l.r8_3, l.r8_4, l.r8_5, l.r8_6, l.r8_7, l.r8_8, l.r8_9, l.r9_1, l.r9_2, l.r9_3, l.r9_4, l.r9_9, l.r21_0, l.r21_1, l.r21_3, l.r21_4, l.r21_5, l.r21_6, l.r21_7, l.r21_8, l.r28_3, l.r28_4, l.r28_5, l.r28_6, l.r28_7, l.r28_9, l.r35_0, l.r35_1, l.r35_2, l.r35_3, l.r35_4, l.r35_5, l.r36_4, l.r38_4, l.r40_4, l.r42_4, l.r44_4, l.r46_4, l.s0, l.s1, l.s2, l.s3, l.s4, l.s5, l.s6, l.s7, l.s8, l.s9, l.s10, l.s11, l.s12, l.s13, l.s14, l.s15, l.s16, l.s17, l.s18, l.s19, l.s20, l.s21, l.s22, l.s23, l.s24, l.s25, l.s26, l.s27, l.s28, l.s29, l.s30, l.s31, l.s32, l.s33, l.s34, l.s35, l.s36, l.s37, l.s38, l.s39, l.s40, l.s41, l.s42, l.s43, l.s44, l.s45, l.s46, l.s47, l.s48, q_at, q_ne, q_atne, f22, ct, et, et1, nI_neg, dle, decide_false, Bool.not_false]
            exact ⟨R3, S3⟩
        refine wp_mono mk ?_
        rintro v h' ⟨m1, m2, m3⟩
        exact ⟨m1, m2, m3⟩
    · rw [if_neg (fun q => y q.2)]
      simp (config := {decide := true, maxSteps := 5000000}) (disch := omega) only [↓reduceIte, ↓wp_some, ↓wp_none, wp_ite, ↓wp_cl, ↓wp_rz, ↓wp_nz, ↓wp_nzL, ↓wp_fI, ↓wp_fL, ↓wp_fR, ↓wp_pI, ↓wp_pL, ↓wp_pR, ↓wp_pZ, ↓wp_aI, ↓wp_aL, ↓wp_aR, ↓wp_bI, ↓wp_bL, ↓wp_bR, ↓wp_rO, ↓wp_cO, ↓wp_nO, ↓wp_iO, ↓wp_tbI, ↓wp_tbL, ↓wp_jn, q_okT, q_okA, q_gI, q_gL, q_gR, q_sI, q_sL, q_sR, q_SI, q_SL, q_SR, q_IL, q_IR, q_LI, q_LR, q_RI, q_RL, List.contains_cons, List.contains_nil, Nat.reduceBEq, Nat.reduceEqDiff, beq_self_eq_true, Bool.or_false, Bool.false_or, Bool.true_or, Bool.or_true, Bool.and_true, Bool.true_and, Bool.false_and, Bool.and_false, if_true, if_false, Bool.false_eq_true, true_and, and_true, false_and, and_false, and_self, not_true, not_false_iff, reduceCtorEq, forall_const, false_imp_iff, true_imp_iff, true_or, or_true, false_or, or_false, l.r0_0, l.r0_1, l.r0_2, l.r0_3, l.r0_4, l.r0_5, l.r1_1, l.r1_2, l.r1_4, l.r1_6, l.r1_7, l.r1_8, l.r8_0, l.r8_3, l.r8_4, l.r8_5, l.r8_6, l.r8_7, l.r8_8, l.r8_9, l.r9_1, l.r9_2, l.r9_3, l.r9_4, l.r9_9, l.r21_0, l.r21_1, l.r21_3, l.r21_4, l.r21_5, l.r21_6, l.r21_7, l.r21_8, l.r28_3, l.r28_4, l.r28_5, l.r28_6, l.r28_7, l.r28_9, l.r35_0, l.r35_1, l.r35_2, l.r35_3, l.r35_4, l.r35_5, l.r36_4, l.r38_4, l.r40_4, l.r42_4, l.r44_4, l.r46_4, l.s0, l.s1, l.s2, l.s3, l.s4, l.s5, l.s6, l.s7, l.s8, l.s9, l.s10, l.s11, l.s12, l.s13, l.s14, l.s15, l.s16, l.s17, l.s18, l.s19, l.s20, l.s21, l.s22, l.s23, l.s24, l.s25, l.s26, l.s27, l.s28, l.s29, l.s30, l.s31, l.s32, l.s33, l.s34, l.s35, l.s36, l.s37, l.s38, l.s39, l.s40, l.s41, l.s42, l.s43, l.s44, l.s45, l.s46, l.s47, l.s48, wp_use (t_X11_isUse _ _), wp_use (t_X11_isDay _ _), z, y]
      exact ⟨R, SM.refl h⟩
  · rw [if_neg (fun q => z q.1)]
    simp (config := {decide := true, maxSteps := 5000000}) (disch := omega) only [↓reduceIte, ↓wp_some, ↓wp_none, wp_ite, ↓wp_cl, ↓wp_rz, ↓wp_nz, ↓wp_nzL, ↓wp_fI, ↓wp_fL, ↓wp_fR, ↓wp_pI, ↓wp_pL, ↓wp_pR, ↓wp_pZ, ↓wp_aI, ↓wp_aL, ↓wp_aR, ↓wp_bI, ↓wp_bL, ↓wp_bR, ↓wp_rO, ↓wp_cO, ↓wp_nO, ↓wp_iO, ↓wp_tbI, ↓wp_tbL, ↓wp_jn, q_okT, q_okA, q_gI, q_gL, q_gR, q_sI, q_sL, q_sR, q_SI, q_SL, q_SR, q_IL, q_IR, q_LI, q_LR, q_RI, q_RL, List.contains_cons, List.contains_nil, Nat.reduceBEq, Nat.reduceEqDiff, beq_self_eq_true, Bool.or_false, Bool.false_or, Bool.true_or, Bool.or_true, Bool.and_true, Bool.true_and, Bool.false_and, Bool.and_false, if_true, if_false, Bool.false_eq_true, true_and, and_true, false_and, and_false, and_self, not_true, not_false_iff, reduceCtorEq, forall_const, false_imp_iff, true_imp_iff, true_or, or_true, false_or, or_false, l.r0_0, l.r0_1, l.r0_2, l.r0_3, l.r0_4, l.r0_5, l.r1_1, l.r1_2, l.r1_4, l.r1_6, l.r1_7, l.r1_8, l.r8_0, l.r8_3, l.r8_4, l.r8_5, l.r8_6, l.r8_7, l.r8_8, l.r8_9, l.r9_1, l.r9_2, l.r9_3, l.r9_4, l.r9_9, l.r21_0, l.r21_1, l.r21_3, l.r21_4, l.r21_5, l.r21_6, l.r21_7, l.r21_8, l.r28_3, l.r28_4, l.r28_5, l.r28_6, l.r28_7, l.r28_9, l.r35_0, l.r35_1, l.r35_2, l.r35_3, l.r35_4, l.r35_5, l.r36_4, l.r38_4, l.r40_4, l.r42_4, l.r44_4, l.r46_4, l.s0, l.s1, l.s2, l.s3, l.s4, l.s5, l.s6, l.s7, l.s8, l.s9, l.s10, l.s11, l.s12, l.s13, l.s14, l.s15, l.s16, l.s17, l.s18, l.s19, l.s20, l.s21, l.s22, l.s23, l.s24, l.s25, l.s26, l.s27, l.s28, l.s29, l.s30, l.s31, l.s32, l.s33, l.s34, l.s35, l.s36, l.s37, l.s38, l.s39, l.s40, l.s41, l.s42, l.s43, l.s44, l.s45, l.s46, l.s47, l.s48, wp_use (t_X11_isUse _ _), z]
    exact ⟨R, SM.refl h⟩
