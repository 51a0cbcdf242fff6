/-! rule: the class's tokens -/
theorem runTo_ge {q : Nat → Bool} : ∀ f p, p ≤ runTo q f p := by
  intro f
  induction f with
  | zero => intro p; exact Nat.le_refl _
  | succ f ih =>
    intro p
    show p ≤ (if q p = true then runTo q f (p + 1) else p)
    split
    · have := ih (p + 1); omega
    · exact Nat.le_refl _
theorem runTo_lt {q : Nat → Bool} {N : Nat} (hq : ∀ i, q i = true → i < N) : ∀ f p, p ≤ N → runTo q f p ≤ N := by
  intro f
  induction f with
  | zero => intro p h; exact h
  | succ f ih =>
    intro p h
    show (if q p = true then runTo q f (p + 1) else p) ≤ N
    split
    · next c => exact ih (p + 1) (hq p c)
    · exact h
theorem runTo_gt {q : Nat → Bool} {f p : Nat} (c : q p = true) : p + 1 ≤ runTo q (f + 1) p := by
  show p + 1 ≤ (if q p = true then runTo q f (p + 1) else p)
  rw [if_pos c]
  exact runTo_ge f (p + 1)
def signB (b : Nat) : Bool := [59, 58, 60, 62, 61, 43, 45, 42, 47, 37, 40, 41].contains b
theorem ixS_b : ∀ b : Nat, b < 256 → (ixS (((nI b).toUInt32 % 65536).toInt32) < 0 ↔ signB b = false) := by decide +kernel
def tkSort (w : AH) (b : Nat) : Int32 := if b < lenT w then (if isLet (byN w b) = true then wTok (wordNo w b (runTo (letQ w) 160 b - b)) else if isDig (byN w b) = true then (if runTo (digQ w) 160 b ≤ b + 5 then 2 else 1) else if signB (byN w b) = true then nI (byN w b) else 1) else 0
def tkVal (w : AH) (b : Nat) : Int32 := if isLet (byN w b) = true then -1 - wordNo w b (runTo (letQ w) 160 b - b) else valN w b (m5 (runTo (digQ w) 160 b - b))
def tkEnd (w : AH) (b : Nat) : Nat := if b < lenT w then (if isLet (byN w b) = true then runTo (letQ w) 160 b else if isDig (byN w b) = true then runTo (digQ w) 160 b else b + 1) else b
def pos (w : AH) : Nat → Nat
  | 0 => 0
  | i + 1 => tkEnd w (runTo (blankQ w) 160 (pos w i))
def plc (w : AH) (i : Nat) : Nat := runTo (blankQ w) 160 (pos w i)
theorem blankQ_lt {w : AH} : ∀ i, blankQ w i = true → i < lenT w := fun i h => (of_decide_eq_true h).1
theorem let_lt {w : AH} : ∀ i, letQ w i = true → i < lenT w := fun i h => of_decide_eq_true (Bool.and_eq_true_iff.mp h).1
theorem dig_lt {w : AH} : ∀ i, digQ w i = true → i < lenT w := fun i h => of_decide_eq_true (Bool.and_eq_true_iff.mp h).1
theorem tkEnd_b {w : AH} {b : Nat} (h : b < lenT w) : b + 1 ≤ tkEnd w b ∧ tkEnd w b ≤ lenT w := by
  unfold tkEnd
  rw [if_pos h]
  by_cases c : isLet (byN w b) = true
  · rw [if_pos c]
    exact ⟨runTo_gt (f := 159) (by unfold letQ; rw [c, decide_eq_true h]; rfl), runTo_lt let_lt _ _ (by omega)⟩
  · rw [if_neg c]
    by_cases d : isDig (byN w b) = true
    · rw [if_pos d]
      exact ⟨runTo_gt (f := 159) (by unfold digQ; rw [d, decide_eq_true h]; rfl), runTo_lt dig_lt _ _ (by omega)⟩
    · rw [if_neg d]; omega
def TkR (w hh : AH) (i : Nat) : Prop := ∀ k, k < i → plc w k < lenT w ∧ hI hh 12 k = nI (plc w k) ∧ hI hh 11 k = tkSort w (plc w k) ∧ (isLet (byN w (plc w k)) = true ∨ isDig (byN w (plc w k)) = true → hI hh 13 k = tkVal w (plc w k))
theorem TkR.next {w hh h' : AH} {i : Nat} (T : TkR w hh i) (s : ∀ k, k < i → hI h' 12 k = hI hh 12 k ∧ hI h' 11 k = hI hh 11 k ∧ hI h' 13 k = hI hh 13 k) (h1 : plc w i < lenT w) (h2 : hI h' 12 i = nI (plc w i)) (h3 : hI h' 11 i = tkSort w (plc w i)) (h4 : isLet (byN w (plc w i)) = true ∨ isDig (byN w (plc w i)) = true → hI h' 13 i = tkVal w (plc w i)) : TkR w h' (i + 1) := by
  intro k hk
  by_cases z : k = i
  · rw [z]; exact ⟨h1, h2, h3, h4⟩
  · obtain ⟨s1, s2, s3⟩ := s k (by omega)
    rw [s1, s2, s3]
    exact T k (by omega)
/-- nothing changed but the tokens and the place that is read next -/
def Sp (h h' : AH) : Prop := Sd h h' ∧ (∀ a, a ≠ 9 → a ≠ 11 → a ≠ 12 → a ≠ 13 → hI h' a = hI h a) ∧ ∀ k, k ≠ 5 → hI h' 9 k = hI h 9 k
theorem Sp.j {h h1 h2 : AH} {i : Nat} (s : Sp h h1) (t : Sj i h1 h2) : Sp h h2 := ⟨s.1.trans t.1, fun a h1 h2 h3 h4 => (t.2.1 a h1 h2 h4).trans (s.2.1 a h1 h2 h3 h4), fun k hk => (t.2.2.1 k hk).trans (s.2.2 k hk)⟩
theorem Sp.k {h h1 h2 : AH} (s : Sp h h1) (t : Sk h1 h2) : Sp h h2 := ⟨s.1.trans t.1, fun a h1 h2 h3 h4 => (t.2.1 a h1).trans (s.2.1 a h1 h2 h3 h4), fun k hk => (t.2.2 k hk).trans (s.2.2 k hk)⟩
theorem Sp.p {h h1 : AH} (s : Sp h h1) (i : Nat) (v : Int32) : Sp h (wI h1 12 i v) := ⟨s.1.wI 12 i v (by decide) rfl, fun a h1 h2 h3 h4 => by rw [q_ne h3]; exact s.2.1 a h1 h2 h3 h4, fun k hk => by rw [q_ne (by decide)]; exact s.2.2 k hk⟩
set_option maxHeartbeats 4000000 in
theorem t_X8_splitIntoTokens {h w : AH} {P : Nat → Prog} {ad : Nat → Nat} (R : RC h w P ad) (F : WF1 w) (Y : WBy w) : wp (f_X8_splitIntoTokens (some 9) h) (fun _ h' => ∃ m, m ≤ 160 ∧ TkR w h' m ∧ plc w m = lenT w ∧ hI h' 12 m = nI (plc w m) ∧ hI h' 11 m = 0 ∧ Sp h h') := by
  have l := R.l
  have lt := (lenT_eq F).1
  have S0 : Sp h (wI h 9 5 0) := ⟨(Sd.refl h).wI 9 5 0 (by decide) rfl, fun a h1 _ _ _ => by rw [q_ne h1], fun k hk => by rw [q_II, if_neg (fun q => hk q.2)]⟩
  unfold f_X8_splitIntoTokens
  simp (config := {decide := true, maxSteps := 5000000}) (disch := omega) only [↓reduceIte, ↓wp_some, ↓wp_none, wp_ite, ↓wp_cl, ↓wp_rz, ↓wp_nz, ↓wp_nzL, ↓wp_fI, ↓wp_fL, ↓wp_fR, ↓wp_pI, ↓wp_pL, ↓wp_pR, ↓wp_pZ, ↓wp_aI, ↓wp_aL, ↓wp_aR, ↓wp_bI, ↓wp_bL, ↓wp_bR, ↓wp_rO, ↓wp_cO, ↓wp_nO, ↓wp_iO, ↓wp_tbI, ↓wp_tbL, q_okT, q_okA, q_gI, q_gL, q_gR, q_sI, q_sL, q_sR, q_SI, q_SL, q_SR, q_IL, q_IR, q_LI, q_LR, q_RI, q_RL, List.contains_cons, List.contains_nil, Nat.reduceBEq, Nat.reduceEqDiff, beq_self_eq_true, Bool.or_false, Bool.false_or, Bool.true_or, Bool.or_true, Bool.and_true, Bool.true_and, Bool.false_and, Bool.and_false, if_true, if_false, Bool.false_eq_true, true_and, and_true, false_and, and_false, and_self, not_true, not_false_iff, reduceCtorEq, forall_const, false_imp_iff, true_imp_iff, true_or, or_true, false_or, or_false, l.r0_0, l.r0_1, l.r0_2, l.r0_3, l.r0_4, l.r0_5, l.r1_1, l.r1_2, l.r1_4, l.r1_6, l.r1_7, l.r1_8, l.r8_0, l.r8_3, l.r8_4, l.r8_5, l.r8_6, l.r8_7, l.r8_8, l.r8_9, l.r9_1, l.r9_2, l.r9_3, l.r9_4, l.r9_9, l.r21_0, l.r21_1, l.r21_3, l.r21_4, l.r21_5, l.r21_6, l.r21_7, l.r21_8, l.r28_3, l.r28_4, l.r28_5, l.r28_6, l.r28_7, l.r28_9, l.r35_0, l.r35_1, l.r35_2, l.r35_3, l.r35_4, l.r35_5, l.r36_4, l.r38_4, l.r40_4, l.r42_4, l.r44_4, l.r46_4, l.s0, l.s1, l.s2, l.s3, l.s4, l.s5, l.s6, l.s7, l.s8, l.s9, l.s10, l.s11, l.s12, l.s13, l.s14, l.s15, l.s16, l.s17, l.s18, l.s19, l.s20, l.s21, l.s22, l.s23, l.s24, l.s25, l.s26, l.s27, l.s28, l.s29, l.s30, l.s31, l.s32, l.s33, l.s34, l.s35, l.s36, l.s37, l.s38, l.s39, l.s40, l.s41, l.s42, l.s43, l.s44, l.s45, l.s46, l.s47, l.s48]
  refine wp_g2 161 (fun i y hh => y = nI i ∧ hI hh 9 5 = nI (pos w i) ∧ i ≤ pos w i ∧ pos w i ≤ lenT w ∧ TkR w hh i ∧ Sp h hh) ⟨rfl, q_at, by omega, by show 0 ≤ lenT w; omega, fun k hk => absurd hk (by omega), S0⟩ (by omega) ?_ ?_
  · rintro G y hh ⟨rfl, -, h1, h2, -, -⟩
    omega
  · rintro G i y hh hi ⟨rfl, e5, hp, hl, T, S⟩ ih
    have g : ¬ (160 : Int32) < nI i := by rw [show (160 : Int32) = nI 160 from rfl, nI_ltI (by omega) (by omega)]; omega
    have R1 := R.sd S.1
    have l := R1.l
    have ci : (nI i).toNatClampNeg = i := nI_clamp (by omega)
    have ei : nI i + 1 = nI (i + 1) := nI_add _ 1
    have sk := t_X8_skipBlanks R1 F Y (p := pos w i) (by omega) e5
    have pl : plc w i ≤ lenT w := runTo_lt blankQ_lt _ _ hl
    have pg : pos w i ≤ plc w i := runTo_ge _ _
    simp (config := {decide := true, maxSteps := 5000000}) (disch := omega) only [↓reduceIte, ↓wp_some, ↓wp_none, wp_ite, ↓wp_cl, ↓wp_rz, ↓wp_nz, ↓wp_nzL, ↓wp_fI, ↓wp_fL, ↓wp_fR, ↓wp_pI, ↓wp_pL, ↓wp_pR, ↓wp_pZ, ↓wp_aI, ↓wp_aL, ↓wp_aR, ↓wp_bI, ↓wp_bL, ↓wp_bR, ↓wp_rO, ↓wp_cO, ↓wp_nO, ↓wp_iO, ↓wp_tbI, ↓wp_tbL, ↓wp_jn, q_okT, q_okA, q_gI, q_gL, q_gR, q_sI, q_sL, q_sR, q_SI, q_SL, q_SR, q_IL, q_IR, q_LI, q_LR, q_RI, q_RL, List.contains_cons, List.contains_nil, Nat.reduceBEq, Nat.reduceEqDiff, beq_self_eq_true, Bool.or_false, Bool.false_or, Bool.true_or, Bool.or_true, Bool.and_true, Bool.true_and, Bool.false_and, Bool.and_false, if_true, if_false, Bool.false_eq_true, true_and, and_true, false_and, and_false, and_self, not_true, not_false_iff, reduceCtorEq, forall_const, false_imp_iff, true_imp_iff, true_or, or_true, false_or, or_false, l.r0_0, l.r0_1, l.r0_2, l.r0_3, l.r0_4, l.r0_5, l.r1_1, l.r1_2, l.r1_4, l.r1_6, l.r1_7, l.r1_8, l.r8_0, l.r8_3, l.r8_4, l.r8_5, l.r8_6, l.r8_7, l.r8_8, l.r8_9, l.r9_1, l.r9_2, l.r9_3, l.r9_4, l.r9_9, l.r21_0, l.r21_1, l.r21_3, l.r21_4, l.r21_5, l.r21_6, l.r21_7, l.r21_8, l.r28_3, l.r28_4, l.r28_5, l.r28_6, l.r28_7, l.r28_9, l.r35_0, l.r35_1, l.r35_2, l.r35_3, l.r35_4, l.r35_5, l.r36_4, l.r38_4, l.r40_4, l.r42_4, l.r44_4, l.r46_4, l.s0, l.s1, l.s2, l.s3, l.s4, l.s5, l.s6, l.s7, l.s8, l.s9, l.s10, l.s11, l.s12, l.s13, l.s14, l.s15, l.s16, l.s17, l.s18, l.s19, l.s20, l.s21, l.s22, l.s23, l.s24, l.s25, l.s26, l.s27, l.s28, l.s29, l.s30, l.s31, l.s32, l.s33, l.s34, l.s35, l.s36, l.s37, l.s38, l.s39, l.s40, l.s41, l.s42, l.s43, l.s44, l.s45, l.s46, l.s47, l.s48, g]
    refine wp_mono sk ?_
    rintro _ h4 ⟨f5, K⟩
    have f5 : hI h4 9 5 = nI (plc w i) := f5
    have S4 := S.k K
    have S7 := S4.p i (nI (plc w i))
    have R7 := R.sd S7.1
    have l : Lay h4 := (R.sd S4.1).l
    have e7 : hI (wI h4 12 i (nI (plc w i))) 9 5 = nI (plc w i) := by rw [q_ne (by decide)]; exact f5
    have by_ := t_X8_byteAt R7 F Y (p := plc w i) (by omega)
    have old : ∀ h', Sj i (wI h4 12 i (nI (plc w i))) h' → (∀ k, k < i → hI h' 12 k = hI hh 12 k ∧ hI h' 11 k = hI hh 11 k ∧ hI h' 13 k = hI hh 13 k) ∧ hI h' 12 i = nI (plc w i) := by
      intro h' J
      refine ⟨fun k hk => ⟨?_, ?_, ?_⟩, ?_⟩
      · rw [J.2.1 12 (by decide) (by decide) (by decide), q_II, if_neg (by omega), K.2.1 12 (by decide)]
      · rw [(J.2.2.2 k (by omega)).1, q_ne (by decide), K.2.1 11 (by decide)]
      · rw [(J.2.2.2 k (by omega)).2, q_ne (by decide), K.2.1 13 (by decide)]
      · rw [J.2.1 12 (by decide) (by decide) (by decide), q_at]
    by_cases c : plc w i < lenT w
    · have b256 := (Y.at (i := plc w i) (by omega)).1
      rw [if_pos c] at by_
      obtain ⟨n1, n2⟩ := tkEnd_b c
      have ps : pos w (i + 1) = tkEnd w (plc w i) := rfl
      have b0 : (0 : Int32) ≤ nI (byN w (plc w i)) := by rw [show (0 : Int32) = nI 0 from rfl, nI_leI (by omega) (by omega)]; omega
      have le := fun hx => t_X8_isLetter hx b256
      have dg := fun hx => t_X8_isDigit hx b256
      have next : ∀ h', Sj i (wI h4 12 i (nI (plc w i))) h' → hI h' 9 5 = nI (tkEnd w (plc w i)) → hI h' 11 i = tkSort w (plc w i) → (isLet (byN w (plc w i)) = true ∨ isDig (byN w (plc w i)) = true → hI h' 13 i = tkVal w (plc w i)) → wp (G (nI (i + 1)) h') (fun _ h' => ∃ m, m ≤ 160 ∧ TkR w h' m ∧ plc w m = lenT w ∧ hI h' 12 m = nI (plc w m) ∧ hI h' 11 m = 0 ∧ Sp h h') := by
        intro h' J x5 x11 x13
        obtain ⟨o1, o2⟩ := old h' J
        exact ih _ _ ⟨rfl, by rw [ps]; exact x5, by omega, by omega, T.next o1 c o2 x11 x13, S7.j J⟩
      by_cases L : isLet (byN w (plc w i)) = true
      · simp only [if_pos L] at le
        have rw_ := t_X8_readWord R7 F Y (b := plc w i) (i := i) (by omega) (by omega) e7 q_at
        have eE : tkEnd w (plc w i) = runTo (letQ w) 160 (plc w i) := by unfold tkEnd; rw [if_pos c, if_pos L]
        have eS : tkSort w (plc w i) = wTok (wordNo w (plc w i) (runTo (letQ w) 160 (plc w i) - plc w i)) := by unfold tkSort; rw [if_pos c, if_pos L]
        have eV : tkVal w (plc w i) = -1 - wordNo w (plc w i) (runTo (letQ w) 160 (plc w i) - plc w i) := by unfold tkVal; rw [if_pos L]
        simp (config := {decide := true, maxSteps := 5000000}) (disch := omega) only [↓reduceIte, ↓wp_some, ↓wp_none, wp_ite, ↓wp_cl, ↓wp_rz, ↓wp_nz, ↓wp_nzL, ↓wp_fI, ↓wp_fL, ↓wp_fR, ↓wp_pI, ↓wp_pL, ↓wp_pR, ↓wp_pZ, ↓wp_aI, ↓wp_aL, ↓wp_aR, ↓wp_bI, ↓wp_bL, ↓wp_bR, ↓wp_rO, ↓wp_cO, ↓wp_nO, ↓wp_iO, ↓wp_tbI, ↓wp_tbL, ↓wp_jn, q_okT, q_okA, q_gI, q_gL, q_gR, q_sI, q_sL, q_sR, q_SI, q_SL, q_SR, q_IL, q_IR, q_LI, q_LR, q_RI, q_RL, List.contains_cons, List.contains_nil, Nat.reduceBEq, Nat.reduceEqDiff, beq_self_eq_true, Bool.or_false, Bool.false_or, Bool.true_or, Bool.or_true, Bool.and_true, Bool.true_and, Bool.false_and, Bool.and_false, if_true, if_false, Bool.false_eq_true, true_and, and_true, false_and, and_false, and_self, not_true, not_false_iff, reduceCtorEq, forall_const, false_imp_iff, true_imp_iff, true_or, or_true, false_or, or_false, l.r0_0, l.r0_1, l.r0_2, l.r0_3, l.r0_4, l.r0_5, l.r1_1, l.r1_2, l.r1_4, l.r1_6, l.r1_7, l.r1_8, l.r8_0, l.r8_3, l.r8_4, l.r8_5, l.r8_6, l.r8_7, l.r8_8, l.r8_9, l.r9_1, l.r9_2, l.r9_3, l.r9_4, l.r9_9, l.r21_0, l.r21_1, l.r21_3, l.r21_4, l.r21_5, l.r21_6, l.r21_7, l.r21_8, l.r28_3, l.r28_4, l.r28_5, l.r28_6, l.r28_7, l.r28_9, l.r35_0, l.r35_1, l.r35_2, l.r35_3, l.r35_4, l.r35_5, l.r36_4, l.r38_4, l.r40_4, l.r42_4, l.r44_4, l.r46_4, l.s0, l.s1, l.s2, l.s3, l.s4, l.s5, l.s6, l.s7, l.s8, l.s9, l.s10, l.s11, l.s12, l.s13, l.s14, l.s15, l.s16, l.s17, l.s18, l.s19, l.s20, l.s21, l.s22, l.s23, l.s24, l.s25, l.s26, l.s27, l.s28, l.s29, l.s30, l.s31, l.s32, l.s33, l.s34, l.s35, l.s36, l.s37, l.s38, l.s39, l.s40, l.s41, l.s42, l.s43, l.s44, l.s45, l.s46, l.s47, l.s48, f5, ci, e7, wp_use by_, b0, wp_use (le _), ei, nI_neg, dle, decide_false, Bool.not_false]
        refine wp_mono rw_ ?_
        rintro _ h' ⟨x5, x11, x13, J⟩
        exact next h' J (by rw [eE]; exact x5) (by rw [eS]; exact x11) (fun _ => by rw [eV]; exact x13)
      · simp only [if_neg L] at le
        by_cases D : isDig (byN w (plc w i)) = true
        · simp only [if_pos D] at dg
          have rn := t_X8_readNumber R7 F Y (b := plc w i) (i := i) (by omega) (by omega) e7
          have eE : tkEnd w (plc w i) = runTo (digQ w) 160 (plc w i) := by unfold tkEnd; rw [if_pos c, if_neg L, if_pos D]
          have eS : tkSort w (plc w i) = if runTo (digQ w) 160 (plc w i) ≤ plc w i + 5 then 2 else 1 := by unfold tkSort; rw [if_pos c, if_neg L, if_pos D]
          have eV : tkVal w (plc w i) = valN w (plc w i) (m5 (runTo (digQ w) 160 (plc w i) - plc w i)) := by unfold tkVal; rw [if_neg L]
          simp (config := {decide := true, maxSteps := 5000000}) (disch := omega) only [↓reduceIte, ↓wp_some, ↓wp_none, wp_ite, ↓wp_cl, ↓wp_rz, ↓wp_nz, ↓wp_nzL, ↓wp_fI, ↓wp_fL, ↓wp_fR, ↓wp_pI, ↓wp_pL, ↓wp_pR, ↓wp_pZ, ↓wp_aI, ↓wp_aL, ↓wp_aR, ↓wp_bI, ↓wp_bL, ↓wp_bR, ↓wp_rO, ↓wp_cO, ↓wp_nO, ↓wp_iO, ↓wp_tbI, ↓wp_tbL, ↓wp_jn, q_okT, q_okA, q_gI, q_gL, q_gR, q_sI, q_sL, q_sR, q_SI, q_SL, q_SR, q_IL, q_IR, q_LI, q_LR, q_RI, q_RL, List.contains_cons, List.contains_nil, Nat.reduceBEq, Nat.reduceEqDiff, beq_self_eq_true, Bool.or_false, Bool.false_or, Bool.true_or, Bool.or_true, Bool.and_true, Bool.true_and, Bool.false_and, Bool.and_false, if_true, if_false, Bool.false_eq_true, true_and, and_true, false_and, and_false, and_self, not_true, not_false_iff, reduceCtorEq, forall_const, false_imp_iff, true_imp_iff, true_or, or_true, false_or, or_false, l.r0_0, l.r0_1, l.r0_2, l.r0_3, l.r0_4, l.r0_5, l.r1_1, l.r1_2, l.r1_4, l.r1_6, l.r1_7, l.r1_8, l.r8_0, l.r8_3, l.r8_4, l.r8_5, l.r8_6, l.r8_7, l.r8_8, l.r8_9, l.r9_1, l.r9_2, l.r9_3, l.r9_4, l.r9_9, l.r21_0, l.r21_1, l.r21_3, l.r21_4, l.r21_5, l.r21_6, l.r21_7, l.r21_8, l.r28_3, l.r28_4, l.r28_5, l.r28_6, l.r28_7, l.r28_9, l.r35_0, l.r35_1, l.r35_2, l.r35_3, l.r35_4, l.r35_5, l.r36_4, l.r38_4, l.r40_4, l.r42_4, l.r44_4, l.r46_4, l.s0, l.s1, l.s2, l.s3, l.s4, l.s5, l.s6, l.s7, l.s8, l.s9, l.s10, l.s11, l.s12, l.s13, l.s14, l.s15, l.s16, l.s17, l.s18, l.s19, l.s20, l.s21, l.s22, l.s23, l.s24, l.s25, l.s26, l.s27, l.s28, l.s29, l.s30, l.s31, l.s32, l.s33, l.s34, l.s35, l.s36, l.s37, l.s38, l.s39, l.s40, l.s41, l.s42, l.s43, l.s44, l.s45, l.s46, l.s47, l.s48, f5, ci, e7, wp_use by_, b0, wp_use (le _), wp_use (dg _), ei, nI_neg, dle, decide_false, Bool.not_false]
          refine wp_mono rn ?_
          rintro _ h' ⟨x5, x11, x13, J⟩
          exact next h' J (by rw [eE]; exact x5) (by rw [eS]; exact x11) (fun _ => by rw [eV]; exact x13)
        · simp only [if_neg D] at dg
          have ix := ixS_b (byN w (plc w i)) b256
          have e1 : nI (plc w i) + 1 = nI (plc w i + 1) := nI_add _ 1
          have eE : tkEnd w (plc w i) = plc w i + 1 := by unfold tkEnd; rw [if_pos c, if_neg L, if_neg D]
          have eS : tkSort w (plc w i) = if signB (byN w (plc w i)) = true then nI (byN w (plc w i)) else 1 := by unfold tkSort; rw [if_pos c, if_neg L, if_neg D]
          have go : ∀ t, t = (if signB (byN w (plc w i)) = true then nI (byN w (plc w i)) else 1) → _ := fun t et => next (wI (wI (wI h4 12 i (nI (plc w i))) 11 i t) 9 5 (nI (plc w i + 1))) (((Sj.refl i _).tok t).step _) (by rw [eE]; exact q_at) (by rw [q_ne (by decide), q_at, eS]; exact et) (fun q => absurd q (by rintro (q | q) <;> contradiction))
          have e11 : ∀ t, hI (wI (wI h4 12 i (nI (plc w i))) 11 i t) 9 5 = nI (plc w i) := fun t => by rw [q_ne (by decide)]; exact e7
          by_cases sg : signB (byN w (plc w i)) = true
          · have ix2 : ¬ ixS (((nI (byN w (plc w i))).toUInt32 % 65536).toInt32) < 0 := fun q => by have := ix.mp q; rw [sg] at this; cases this
            simp (config := {decide := true, maxSteps := 5000000}) (disch := omega) only [↓reduceIte, ↓wp_some, ↓wp_none, wp_ite, ↓wp_cl, ↓wp_rz, ↓wp_nz, ↓wp_nzL, ↓wp_fI, ↓wp_fL, ↓wp_fR, ↓wp_pI, ↓wp_pL, ↓wp_pR, ↓wp_pZ, ↓wp_aI, ↓wp_aL, ↓wp_aR, ↓wp_bI, ↓wp_bL, ↓wp_bR, ↓wp_rO, ↓wp_cO, ↓wp_nO, ↓wp_iO, ↓wp_tbI, ↓wp_tbL, ↓wp_jn, q_okT, q_okA, q_gI, q_gL, q_gR, q_sI, q_sL, q_sR, q_SI, q_SL, q_SR, q_IL, q_IR, q_LI, q_LR, q_RI, q_RL, List.contains_cons, List.contains_nil, Nat.reduceBEq, Nat.reduceEqDiff, beq_self_eq_true, Bool.or_false, Bool.false_or, Bool.true_or, Bool.or_true, Bool.and_true, Bool.true_and, Bool.false_and, Bool.and_false, if_true, if_false, Bool.false_eq_true, true_and, and_true, false_and, and_false, and_self, not_true, not_false_iff, reduceCtorEq, forall_const, false_imp_iff, true_imp_iff, true_or, or_true, false_or, or_false, l.r0_0, l.r0_1, l.r0_2, l.r0_3, l.r0_4, l.r0_5, l.r1_1, l.r1_2, l.r1_4, l.r1_6, l.r1_7, l.r1_8, l.r8_0, l.r8_3, l.r8_4, l.r8_5, l.r8_6, l.r8_7, l.r8_8, l.r8_9, l.r9_1, l.r9_2, l.r9_3, l.r9_4, l.r9_9, l.r21_0, l.r21_1, l.r21_3, l.r21_4, l.r21_5, l.r21_6, l.r21_7, l.r21_8, l.r28_3, l.r28_4, l.r28_5, l.r28_6, l.r28_7, l.r28_9, l.r35_0, l.r35_1, l.r35_2, l.r35_3, l.r35_4, l.r35_5, l.r36_4, l.r38_4, l.r40_4, l.r42_4, l.r44_4, l.r46_4, l.s0, l.s1, l.s2, l.s3, l.s4, l.s5, l.s6, l.s7, l.s8, l.s9, l.s10, l.s11, l.s12, l.s13, l.s14, l.s15, l.s16, l.s17, l.s18, l.s19, l.s20, l.s21, l.s22, l.s23, l.s24, l.s25, l.s26, l.s27, l.s28, l.s29, l.s30, l.s31, l.s32, l.s33, l.s34, l.s35, l.s36, l.s37, l.s38, l.s39, l.s40, l.s41, l.s42, l.s43, l.s44, l.s45, l.s46, l.s47, l.s48, f5, ci, e7, wp_use by_, b0, wp_use (le _), wp_use (dg _), ix2, e11, e1, ei, nI_neg, dle, decide_false, Bool.not_false]
            exact go _ (by rw [if_pos sg])
          · have ix2 : ixS (((nI (byN w (plc w i))).toUInt32 % 65536).toInt32) < 0 := ix.mpr (Bool.eq_false_iff.mpr sg)
            simp (config := {decide := true, maxSteps := 5000000}) (disch := omega) only [↓reduceIte, ↓wp_some, ↓wp_none, wp_ite, ↓wp_cl, ↓wp_rz, ↓wp_nz, ↓wp_nzL, ↓wp_fI, ↓wp_fL, ↓wp_fR, ↓wp_pI, ↓wp_pL, ↓wp_pR, ↓wp_pZ, ↓wp_aI, ↓wp_aL, ↓wp_aR, ↓wp_bI, ↓wp_bL, ↓wp_bR, ↓wp_rO, ↓wp_cO, ↓wp_nO, ↓wp_iO, ↓wp_tbI, ↓wp_tbL, ↓wp_jn, q_okT, q_okA, q_gI, q_gL, q_gR, q_sI, q_sL, q_sR, q_SI, q_SL, q_SR, q_IL, q_IR, q_LI, q_LR, q_RI, q_RL, List.contains_cons, List.contains_nil, Nat.reduceBEq, Nat.reduceEqDiff, beq_self_eq_true, Bool.or_false, Bool.false_or, Bool.true_or, Bool.or_true, Bool.and_true, Bool.true_and, Bool.false_and, Bool.and_false, if_true, if_false, Bool.false_eq_true, true_and, and_true, false_and, and_false, and_self, not_true, not_false_iff, reduceCtorEq, forall_const, false_imp_iff, true_imp_iff, true_or, or_true, false_or, or_false, l.r0_0, l.r0_1, l.r0_2, l.r0_3, l.r0_4, l.r0_5, l.r1_1, l.r1_2, l.r1_4, l.r1_6, l.r1_7, l.r1_8, l.r8_0, l.r8_3, l.r8_4, l.r8_5, l.r8_6, l.r8_7, l.r8_8, l.r8_9, l.r9_1, l.r9_2, l.r9_3, l.r9_4, l.r9_9, l.r21_0, l.r21_1, l.r21_3, l.r21_4, l.r21_5, l.r21_6, l.r21_7, l.r21_8, l.r28_3, l.r28_4, l.r28_5, l.r28_6, l.r28_7, l.r28_9, l.r35_0, l.r35_1, l.r35_2, l.r35_3, l.r35_4, l.r35_5, l.r36_4, l.r38_4, l.r40_4, l.r42_4, l.r44_4, l.r46_4, l.s0, l.s1, l.s2, l.s3, l.s4, l.s5, l.s6, l.s7, l.s8, l.s9, l.s10, l.s11, l.s12, l.s13, l.s14, l.s15, l.s16, l.s17, l.s18, l.s19, l.s20, l.s21, l.s22, l.s23, l.s24, l.s25, l.s26, l.s27, l.s28, l.s29, l.s30, l.s31, l.s32, l.s33, l.s34, l.s35, l.s36, l.s37, l.s38, l.s39, l.s40, l.s41, l.s42, l.s43, l.s44, l.s45, l.s46, l.s47, l.s48, f5, ci, e7, wp_use by_, b0, wp_use (le _), wp_use (dg _), ix2, e11, e1, ei, nI_neg, dle, decide_false, Bool.not_false]
            exact go _ (by rw [if_neg sg])
    · rw [if_neg c] at by_
      have m0 : ¬ (0 : Int32) ≤ -1 := by decide
      have J : Sj i (wI h4 12 i (nI (plc w i))) (wI (wI h4 12 i (nI (plc w i))) 11 i 0) := (Sj.refl i _).tok 0
      obtain ⟨o1, o2⟩ := old _ J
      simp (config := {decide := true, maxSteps := 5000000}) (disch := omega) only [↓reduceIte, ↓wp_some, ↓wp_none, wp_ite, ↓wp_cl, ↓wp_rz, ↓wp_nz, ↓wp_nzL, ↓wp_fI, ↓wp_fL, ↓wp_fR, ↓wp_pI, ↓wp_pL, ↓wp_pR, ↓wp_pZ, ↓wp_aI, ↓wp_aL, ↓wp_aR, ↓wp_bI, ↓wp_bL, ↓wp_bR, ↓wp_rO, ↓wp_cO, ↓wp_nO, ↓wp_iO, ↓wp_tbI, ↓wp_tbL, ↓wp_jn, q_okT, q_okA, q_gI, q_gL, q_gR, q_sI, q_sL, q_sR, q_SI, q_SL, q_SR, q_IL, q_IR, q_LI, q_LR, q_RI, q_RL, List.contains_cons, List.contains_nil, Nat.reduceBEq, Nat.reduceEqDiff, beq_self_eq_true, Bool.or_false, Bool.false_or, Bool.true_or, Bool.or_true, Bool.and_true, Bool.true_and, Bool.false_and, Bool.and_false, if_true, if_false, Bool.false_eq_true, true_and, and_true, false_and, and_false, and_self, not_true, not_false_iff, reduceCtorEq, forall_const, false_imp_iff, true_imp_iff, true_or, or_true, false_or, or_false, l.r0_0, l.r0_1, l.r0_2, l.r0_3, l.r0_4, l.r0_5, l.r1_1, l.r1_2, l.r1_4, l.r1_6, l.r1_7, l.r1_8, l.r8_0, l.r8_3, l.r8_4, l.r8_5, l.r8_6, l.r8_7, l.r8_8, l.r8_9, l.r9_1, l.r9_2, l.r9_3, l.r9_4, l.r9_9, l.r21_0, l.r21_1, l.r21_3, l.r21_4, l.r21_5, l.r21_6, l.r21_7, l.r21_8, l.r28_3, l.r28_4, l.r28_5, l.r28_6, l.r28_7, l.r28_9, l.r35_0, l.r35_1, l.r35_2, l.r35_3, l.r35_4, l.r35_5, l.r36_4, l.r38_4, l.r40_4, l.r42_4, l.r44_4, l.r46_4, l.s0, l.s1, l.s2, l.s3, l.s4, l.s5, l.s6, l.s7, l.s8, l.s9, l.s10, l.s11, l.s12, l.s13, l.s14, l.s15, l.s16, l.s17, l.s18, l.s19, l.s20, l.s21, l.s22, l.s23, l.s24, l.s25, l.s26, l.s27, l.s28, l.s29, l.s30, l.s31, l.s32, l.s33, l.s34, l.s35, l.s36, l.s37, l.s38, l.s39, l.s40, l.s41, l.s42, l.s43, l.s44, l.s45, l.s46, l.s47, l.s48, f5, ci, e7, wp_use by_, m0, nI_neg, dle, decide_false, Bool.not_false]
      exact ⟨i, by omega, fun k hk => by obtain ⟨s1, s2, s3⟩ := o1 k hk; rw [s1, s2, s3]; exact T k hk, by omega, o2, q_at, S7.j J⟩
