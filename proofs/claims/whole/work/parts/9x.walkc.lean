/-! A WALK: the class's search -/
theorem wp_cpI {α : Type} {h : AH} {a b i j n p q : Nat} (ea : (hS h)[a]? = some (20, p)) (eb : (hS h)[b]? = some (20, q)) (h1 : i + n ≤ p) (h2 : j + n ≤ q) (hp : p < 2 ^ 31) (hq : q < 2 ^ 31) (K : AH → Option (α × AH)) (Q : α → AH → Prop) : wp (cpI h (some a) (nI i) (some b) (nI j) (nI n) K) Q = wp (K (rwI h b (va_cpy (hI h a) (hI h b) i j n))) Q := by
  have c1 : (nI i).toNatClampNeg = i := nI_clamp (by omega)
  have c2 : (nI j).toNatClampNeg = j := nI_clamp (by omega)
  have c3 : (nI n).toNatClampNeg = n := nI_clamp (by omega)
  have d1 : ¬ nI i < 0 := Int32.not_lt.mpr (nI_pos' (by omega))
  have d2 : ¬ nI j < 0 := Int32.not_lt.mpr (nI_pos' (by omega))
  have d3 : ¬ nI n < 0 := Int32.not_lt.mpr (nI_pos' (by omega))
  have ok : cpOk h 20 (some a) (nI i) (some b) (nI j) (nI n) = true := by
    unfold cpOk
    simp only [ea, eb, c1, c2, c3, d1, d2, d3]
    simp [h1, h2]
  unfold cpI
  rw [if_pos ok, c1, c2, c3]
  rfl
theorem q_IrI (h : AH) (a : Nat) (g : Nat → Int32) (b k : Nat) : hI (rwI h a g) b k = if b = a then g k else hI h b k := by
  show uR h.2.1 a g b k = _
  unfold uR
  by_cases z : b = a
  · rw [if_pos z, if_pos z]
  · rw [if_neg z, if_neg z]; rfl
theorem Sd.rwI {h h1 : AH} (s : Sd h h1) (a : Nat) (g : Nat → Int32) (ha : a < 49) (e : ∀ k, swI a k = true) : Sd h (rwI h1 a g) := by
  refine ⟨s.1, fun b k z => ?_, s.2.2.1, s.2.2.2⟩
  rw [q_IrI]
  by_cases y : b = a
  · subst y; exact absurd (z ha) (by rw [e k]; decide)
  · rw [if_neg y]; exact s.2.1 b k z
theorem mod24 : ∀ x : Nat, x < 300 → nI x - nI x / 24 * 24 = nI (x % 24) := by decide +kernel
theorem nightN {x : Nat} (hx : x < 24) : (20 ≤ nI x ∨ nI x < 6) = (dayB x = false) := by
  have : ∀ x : Nat, x < 24 → ((20 ≤ nI x ∨ nI x < 6) ↔ (dayB x = false)) := by decide +kernel
  exact propext (this x hx)
theorem dayB_mod (x : Nat) : dayB (x % 24) = dayB x := by unfold dayB; rw [Nat.mod_mod]
/-- what is told at a place, in the class's cells -/
theorem wfact {h w : AH} {P : Nat → Prog} {ad : Nat → Nat} (R : RC h w P ad) (n : WN w) (W : WB w) (M : WM w) (X : WWo w) {i : Nat} (hi : i < nW w) (home s l : Nat) : ∃ b, b < nB w ∧ boxK (hI w 51 b) = true ∧ hR h 30 i = some (ad b) ∧ hI w 92 i = nI b ∧ liesNow_ w b = nI (tC (told_w w home s l) i) ∧ (tN (told_w w home s l) i = decide (hI w 51 b = 5)) ∧ hI w 93 i = nI (tV (told_w w home s l) i) ∧ hI w 94 i = nI (tH (told_w w home s l) i) := by
  have hn := n.n150
  obtain ⟨⟨b, b1, b2, b3⟩, ⟨x, x1, x2, x3⟩, ⟨y, y1, y2⟩⟩ := X i hi
  have cb : (nI b).toNatClampNeg = b := nI_clamp (by omega)
  refine ⟨b, b1, b3, ?_, b2, ?_, ?_, ?_, ?_⟩
  · have := R.kk.2.1 i hi
    rw [b2, cb] at this; exact this
  · show liesNow_ w b = nI (liesNow_ w (hI w 92 i).toNatClampNeg).toNatClampNeg
    rw [b2, cb]
    obtain ⟨z, z1, z2⟩ := cellN (liesNow_ok n W M b1 b3)
    rw [z2, nI_clamp (by omega)]
  · show decide (hI w 51 ((hI w 92 i).toNatClampNeg) = 5) = _
    rw [b2, cb]
  · show _ = nI (hI w 93 i).toNatClampNeg
    rw [x3, nI_clamp (by omega)]
  · show _ = nI (hI w 94 i).toNatClampNeg
    rw [y2, nI_clamp (by omega)]
theorem t_X10_cellOf {h w : AH} {P : Nat → Prog} {ad : Nat → Nat} (R : RC h w P ad) (n : WN w) (W : WB w) (M : WM w) (X : WWo w) {i : Nat} (hi : i < nW w) (home s l : Nat) : wp (f_X10_cellOf (some 28) (nI i) h) (fun r h' => r = nI (tC (told_w w home s l) i) ∧ h' = h) := by
  have lh := R.l
  have hw := n.w7
  obtain ⟨b, b1, b3, r30, -, e, -, -, -⟩ := wfact R n W M X hi home s l
  have e0 : hI h 28 0 = nI (nW w) := by rw [R.wi]; exact n.w
  have li : nI i < nI (nW w) := by rw [nI_ltI (by omega) (by omega)]; exact hi
  have ci : (nI i).toNatClampNeg = i := nI_clamp (by omega)
  have l := R.l
  unfold f_X10_cellOf
  simp (config := {decide := true, maxSteps := 5000000}) (disch := omega) only [↓reduceIte, ↓wp_some, ↓wp_none, wp_ite, ↓wp_cl, ↓wp_rz, ↓wp_nz, ↓wp_nzL, ↓wp_fI, ↓wp_fL, ↓wp_fR, ↓wp_pI, ↓wp_pL, ↓wp_pR, ↓wp_pZ, ↓wp_aI, ↓wp_aL, ↓wp_aR, ↓wp_bI, ↓wp_bL, ↓wp_bR, ↓wp_rO, ↓wp_cO, ↓wp_nO, ↓wp_iO, ↓wp_tbI, ↓wp_tbL, ↓wp_jn, q_okT, q_okA, q_gI, q_gL, q_gR, q_sI, q_sL, q_sR, q_SI, q_SL, q_SR, q_II, q_IL, q_IR, q_LI, q_LL, q_LR, q_RI, q_RL, q_RR, List.contains_cons, List.contains_nil, Nat.reduceBEq, Nat.reduceEqDiff, beq_self_eq_true, Bool.or_false, Bool.false_or, Bool.true_or, Bool.or_true, Bool.and_true, Bool.true_and, Bool.false_and, Bool.and_false, if_true, if_false, Bool.false_eq_true, true_and, and_true, false_and, and_false, and_self, not_true, not_false_iff, reduceCtorEq, forall_const, false_imp_iff, true_imp_iff, true_or, or_true, false_or, or_false, l.r0_0, l.r0_1, l.r0_2, l.r0_3, l.r0_4, l.r0_5, l.r1_1, l.r1_2, l.r1_4, l.r1_6, l.r1_7, l.r1_8, l.r8_0, l.r8_3, l.r8_4, l.r8_5, l.r8_6, l.r8_7, l.r8_8, l.r8_9, l.r9_1, l.r9_2, l.r9_3, l.r9_4, l.r9_9, l.r21_0, l.r21_1, l.r21_3, l.r21_4, l.r21_5, l.r21_6, l.r21_7, l.r21_8, l.r28_3, l.r28_4, l.r28_5, l.r28_6, l.r28_7, l.r28_9, l.r35_0, l.r35_1, l.r35_2, l.r35_3, l.r35_4, l.r35_5, l.r36_4, l.r38_4, l.r40_4, l.r42_4, l.r44_4, l.r46_4, l.s0, l.s1, l.s2, l.s3, l.s4, l.s5, l.s6, l.s7, l.s8, l.s9, l.s10, l.s11, l.s12, l.s13, l.s14, l.s15, l.s16, l.s17, l.s18, l.s19, l.s20, l.s21, l.s22, l.s23, l.s24, l.s25, l.s26, l.s27, l.s28, l.s29, l.s30, l.s31, l.s32, l.s33, l.s34, l.s35, l.s36, l.s37, l.s38, l.s39, l.s40, l.s41, l.s42, l.s43, l.s44, l.s45, l.s46, l.s47, l.s48, e0, li, ci, r30, R.B.b0 b1 b3, wp_use (t_X1_liesNow R n W b1 b3), e, nI_neg, dle, decide_false, Bool.not_false]
theorem t_X10_timeBehind {h w : AH} {P : Nat → Prog} {ad : Nat → Nat} (R : RC h w P ad) (n : WN w) (W : WB w) (M : WM w) (X : WWo w) {i : Nat} (hi : i < nW w) {home s l0 : Nat} (o : okT' (told_w w home s l0)) (es : hI h 28 14 = nI s) {c t : Nat} (hc : c < 60) (ht : t ≤ 250) : wp (f_X10_timeBehind (some 28) (nI i) (nI c) (nI t) h) (fun r h' => r = nI (doneN (told_w w home s l0) i c t) ∧ h' = h) := by
  have hw := n.w7
  have hs : s < 24 := o.2.2.1
  have l := R.l
  obtain ⟨b, b1, b3, r30, -, e, e5, e1, e2⟩ := wfact R n W M X hi home s l0
  have q := o.2.2.2.2 i hi
  have ci : (nI i).toNatClampNeg = i := nI_clamp (by omega)
  have hb := far_hb c hc (tC (told_w w home s l0) i) q.1
  have h7 := hbN_le c hc (tC (told_w w home s l0) i) q.1
  have cel := t_X10_cellOf R n W M X hi home s l0
  have i32 : hI h 32 i = nI (tH (told_w w home s l0) i) := by rw [R.i32]; exact e2
  unfold f_X10_timeBehind doneN begN
  rw [show tS0 (told_w w home s l0) = s from rfl, e5]
  generalize tC (told_w w home s l0) i = C at hb h7 cel e q ⊢
  generalize tH (told_w w home s l0) i = D at i32 q ⊢
  have a1 : nI t + nI (hbN c C) = nI (t + hbN c C) := nI_add _ _
  have a2 : nI s + nI (t + hbN c C) = nI (s + (t + hbN c C)) := nI_add _ _
  have a3 := mod24 (s + (t + hbN c C)) (by omega)
  have m24 : (s + (t + hbN c C)) % 24 < 24 := Nat.mod_lt _ (by decide)
  have nt := nightN m24
  rw [dayB_mod] at nt
  have a4 : nI (t + hbN c C) + nI D = nI (t + hbN c C + D) := nI_add _ _
  by_cases k5 : hI w 51 b = 5
  · by_cases dy : dayB (s + (t + hbN c C)) = true
    · have nt2 : ¬ (20 ≤ nI ((s + (t + hbN c C)) % 24) ∨ nI ((s + (t + hbN c C)) % 24) < 6) := by rw [nt, dy]; decide
      have le20 : (s + (t + hbN c C)) % 24 ≤ 20 := by
        have : Nat.ble ((s + (t + hbN c C)) % 24) 19 = true := (Bool.and_eq_true_iff.mp dy).2
        have := Nat.le_of_ble_eq_true this
        omega
      have a5 : (20 : Int32) - nI ((s + (t + hbN c C)) % 24) = nI (20 - (s + (t + hbN c C)) % 24) := nI_sub (a := 20) le20
      have a6 : nI (t + hbN c C) + nI (20 - (s + (t + hbN c C)) % 24) = nI (t + hbN c C + (20 - (s + (t + hbN c C)) % 24)) := nI_add _ _
      have a7 : nI (t + hbN c C + (20 - (s + (t + hbN c C)) % 24)) + nI D = nI (t + hbN c C + (20 - (s + (t + hbN c C)) % 24) + D) := nI_add _ _
      simp (config := {decide := true, maxSteps := 5000000}) (disch := omega) only [↓reduceIte, ↓wp_some, ↓wp_none, wp_ite, ↓wp_cl, ↓wp_rz, ↓wp_nz, ↓wp_nzL, ↓wp_fI, ↓wp_fL, ↓wp_fR, ↓wp_pI, ↓wp_pL, ↓wp_pR, ↓wp_pZ, ↓wp_aI, ↓wp_aL, ↓wp_aR, ↓wp_bI, ↓wp_bL, ↓wp_bR, ↓wp_rO, ↓wp_cO, ↓wp_nO, ↓wp_iO, ↓wp_tbI, ↓wp_tbL, ↓wp_jn, q_okT, q_okA, q_gI, q_gL, q_gR, q_sI, q_sL, q_sR, q_SI, q_SL, q_SR, q_II, q_IL, q_IR, q_LI, q_LL, q_LR, q_RI, q_RL, q_RR, List.contains_cons, List.contains_nil, Nat.reduceBEq, Nat.reduceEqDiff, beq_self_eq_true, Bool.or_false, Bool.false_or, Bool.true_or, Bool.or_true, Bool.and_true, Bool.true_and, Bool.false_and, Bool.and_false, if_true, if_false, Bool.false_eq_true, true_and, and_true, false_and, and_false, and_self, not_true, not_false_iff, reduceCtorEq, forall_const, false_imp_iff, true_imp_iff, true_or, or_true, false_or, or_false, l.r0_0, l.r0_1, l.r0_2, l.r0_3, l.r0_4, l.r0_5, l.r1_1, l.r1_2, l.r1_4, l.r1_6, l.r1_7, l.r1_8, l.r8_0, l.r8_3, l.r8_4, l.r8_5, l.r8_6, l.r8_7, l.r8_8, l.r8_9, l.r9_1, l.r9_2, l.r9_3, l.r9_4, l.r9_9, l.r21_0, l.r21_1, l.r21_3, l.r21_4, l.r21_5, l.r21_6, l.r21_7, l.r21_8, l.r28_3, l.r28_4, l.r28_5, l.r28_6, l.r28_7, l.r28_9, l.r35_0, l.r35_1, l.r35_2, l.r35_3, l.r35_4, l.r35_5, l.r36_4, l.r38_4, l.r40_4, l.r42_4, l.r44_4, l.r46_4, l.s0, l.s1, l.s2, l.s3, l.s4, l.s5, l.s6, l.s7, l.s8, l.s9, l.s10, l.s11, l.s12, l.s13, l.s14, l.s15, l.s16, l.s17, l.s18, l.s19, l.s20, l.s21, l.s22, l.s23, l.s24, l.s25, l.s26, l.s27, l.s28, l.s29, l.s30, l.s31, l.s32, l.s33, l.s34, l.s35, l.s36, l.s37, l.s38, l.s39, l.s40, l.s41, l.s42, l.s43, l.s44, l.s45, l.s46, l.s47, l.s48, ci, n24, ne_eq, wp_use cel, wp_use (t_X11_hoursBetween _ _ _), hb, r30, es, a1, a2, a3, R.B.b0 b1 b3, R.B.x1 b1, k5, wp_use (t_X11_isNightHour _ _), nt2, dy, a5, a6, i32, a7, nI_neg, dle, decide_false, Bool.not_false]
    · have nt2 : (20 ≤ nI ((s + (t + hbN c C)) % 24) ∨ nI ((s + (t + hbN c C)) % 24) < 6) := by rw [nt]; simpa using dy
      simp (config := {decide := true, maxSteps := 5000000}) (disch := omega) only [↓reduceIte, ↓wp_some, ↓wp_none, wp_ite, ↓wp_cl, ↓wp_rz, ↓wp_nz, ↓wp_nzL, ↓wp_fI, ↓wp_fL, ↓wp_fR, ↓wp_pI, ↓wp_pL, ↓wp_pR, ↓wp_pZ, ↓wp_aI, ↓wp_aL, ↓wp_aR, ↓wp_bI, ↓wp_bL, ↓wp_bR, ↓wp_rO, ↓wp_cO, ↓wp_nO, ↓wp_iO, ↓wp_tbI, ↓wp_tbL, ↓wp_jn, q_okT, q_okA, q_gI, q_gL, q_gR, q_sI, q_sL, q_sR, q_SI, q_SL, q_SR, q_II, q_IL, q_IR, q_LI, q_LL, q_LR, q_RI, q_RL, q_RR, List.contains_cons, List.contains_nil, Nat.reduceBEq, Nat.reduceEqDiff, beq_self_eq_true, Bool.or_false, Bool.false_or, Bool.true_or, Bool.or_true, Bool.and_true, Bool.true_and, Bool.false_and, Bool.and_false, if_true, if_false, Bool.false_eq_true, true_and, and_true, false_and, and_false, and_self, not_true, not_false_iff, reduceCtorEq, forall_const, false_imp_iff, true_imp_iff, true_or, or_true, false_or, or_false, l.r0_0, l.r0_1, l.r0_2, l.r0_3, l.r0_4, l.r0_5, l.r1_1, l.r1_2, l.r1_4, l.r1_6, l.r1_7, l.r1_8, l.r8_0, l.r8_3, l.r8_4, l.r8_5, l.r8_6, l.r8_7, l.r8_8, l.r8_9, l.r9_1, l.r9_2, l.r9_3, l.r9_4, l.r9_9, l.r21_0, l.r21_1, l.r21_3, l.r21_4, l.r21_5, l.r21_6, l.r21_7, l.r21_8, l.r28_3, l.r28_4, l.r28_5, l.r28_6, l.r28_7, l.r28_9, l.r35_0, l.r35_1, l.r35_2, l.r35_3, l.r35_4, l.r35_5, l.r36_4, l.r38_4, l.r40_4, l.r42_4, l.r44_4, l.r46_4, l.s0, l.s1, l.s2, l.s3, l.s4, l.s5, l.s6, l.s7, l.s8, l.s9, l.s10, l.s11, l.s12, l.s13, l.s14, l.s15, l.s16, l.s17, l.s18, l.s19, l.s20, l.s21, l.s22, l.s23, l.s24, l.s25, l.s26, l.s27, l.s28, l.s29, l.s30, l.s31, l.s32, l.s33, l.s34, l.s35, l.s36, l.s37, l.s38, l.s39, l.s40, l.s41, l.s42, l.s43, l.s44, l.s45, l.s46, l.s47, l.s48, ci, n24, ne_eq, wp_use cel, wp_use (t_X11_hoursBetween _ _ _), hb, r30, es, a1, a2, a3, R.B.b0 b1 b3, R.B.x1 b1, k5, wp_use (t_X11_isNightHour _ _), nt2, dy, i32, a4, nI_neg, dle, decide_false, Bool.not_false]
  · simp (config := {decide := true, maxSteps := 5000000}) (disch := omega) only [↓reduceIte, ↓wp_some, ↓wp_none, wp_ite, ↓wp_cl, ↓wp_rz, ↓wp_nz, ↓wp_nzL, ↓wp_fI, ↓wp_fL, ↓wp_fR, ↓wp_pI, ↓wp_pL, ↓wp_pR, ↓wp_pZ, ↓wp_aI, ↓wp_aL, ↓wp_aR, ↓wp_bI, ↓wp_bL, ↓wp_bR, ↓wp_rO, ↓wp_cO, ↓wp_nO, ↓wp_iO, ↓wp_tbI, ↓wp_tbL, ↓wp_jn, q_okT, q_okA, q_gI, q_gL, q_gR, q_sI, q_sL, q_sR, q_SI, q_SL, q_SR, q_II, q_IL, q_IR, q_LI, q_LL, q_LR, q_RI, q_RL, q_RR, List.contains_cons, List.contains_nil, Nat.reduceBEq, Nat.reduceEqDiff, beq_self_eq_true, Bool.or_false, Bool.false_or, Bool.true_or, Bool.or_true, Bool.and_true, Bool.true_and, Bool.false_and, Bool.and_false, if_true, if_false, Bool.false_eq_true, true_and, and_true, false_and, and_false, and_self, not_true, not_false_iff, reduceCtorEq, forall_const, false_imp_iff, true_imp_iff, true_or, or_true, false_or, or_false, l.r0_0, l.r0_1, l.r0_2, l.r0_3, l.r0_4, l.r0_5, l.r1_1, l.r1_2, l.r1_4, l.r1_6, l.r1_7, l.r1_8, l.r8_0, l.r8_3, l.r8_4, l.r8_5, l.r8_6, l.r8_7, l.r8_8, l.r8_9, l.r9_1, l.r9_2, l.r9_3, l.r9_4, l.r9_9, l.r21_0, l.r21_1, l.r21_3, l.r21_4, l.r21_5, l.r21_6, l.r21_7, l.r21_8, l.r28_3, l.r28_4, l.r28_5, l.r28_6, l.r28_7, l.r28_9, l.r35_0, l.r35_1, l.r35_2, l.r35_3, l.r35_4, l.r35_5, l.r36_4, l.r38_4, l.r40_4, l.r42_4, l.r44_4, l.r46_4, l.s0, l.s1, l.s2, l.s3, l.s4, l.s5, l.s6, l.s7, l.s8, l.s9, l.s10, l.s11, l.s12, l.s13, l.s14, l.s15, l.s16, l.s17, l.s18, l.s19, l.s20, l.s21, l.s22, l.s23, l.s24, l.s25, l.s26, l.s27, l.s28, l.s29, l.s30, l.s31, l.s32, l.s33, l.s34, l.s35, l.s36, l.s37, l.s38, l.s39, l.s40, l.s41, l.s42, l.s43, l.s44, l.s45, l.s46, l.s47, l.s48, ci, n24, ne_eq, wp_use cel, wp_use (t_X11_hoursBetween _ _ _), hb, r30, es, a1, a2, R.B.b0 b1 b3, R.B.x1 b1, k5, i32, a4, nI_neg, dle, decide_false, Bool.not_false]
/-- the search's cells -/
def StC (h0 hh : AH) (T : Told) (row : List Nat) (B : Bst) : Prop := Sd h0 hh ∧ hI hh 28 13 = nI (tHome T) ∧ hI hh 28 14 = nI (tS0 T) ∧ hI hh 28 15 = nI (tL T) ∧ (∀ j, j < row.length → hI hh 33 j = nI (row.getD j 0)) ∧ hI hh 28 11 = nI B.1 ∧ (1 ≤ B.1 → hI hh 28 12 = nI B.2.1 ∧ hI hh 28 10 = nI B.2.2.length ∧ ∀ j, j < B.2.2.length → hI hh 34 j = nI (B.2.2.getD j 0))
theorem getD_ap1 (L : List Nat) (i j : Nat) (h : j < L.length) : (L ++ [i]).getD j 0 = L.getD j 0 := by
  rw [List.getD_eq_getElem?_getD, List.getD_eq_getElem?_getD, List.getElem?_append_left h]
theorem getD_la1 (L : List Nat) (i : Nat) : (L ++ [i]).getD L.length 0 = i := by
  rw [List.getD_eq_getElem?_getD, List.getElem?_append_right (Nat.le_refl _), Nat.sub_self]; rfl
theorem StC.pre {h0 hh : AH} {T : Told} {row : List Nat} {i : Nat} {B : Bst} (S : StC h0 hh T (row ++ [i]) B) : StC h0 hh T row B := by
  obtain ⟨a, b, c, d, e, f⟩ := S
  refine ⟨a, b, c, d, fun j hj => ?_, f⟩
  rw [e j (by rw [List.length_append]; omega), getD_ap1 _ _ _ hj]
theorem StC.put {h0 hh : AH} {T : Told} {row : List Nat} {B : Bst} (S : StC h0 hh T row B) (i : Nat) : StC h0 (wI hh 33 row.length (nI i)) T (row ++ [i]) B := by
  obtain ⟨a, b, c, d, e, f, g⟩ := S
  refine ⟨a.wI 33 _ _ (by omega) rfl, b, c, d, fun j hj => ?_, f, g⟩
  rw [List.length_append, List.length_singleton] at hj
  rw [q_II]
  by_cases z : j = row.length
  · subst z; rw [if_pos ⟨rfl, rfl⟩, getD_la1]
  · rw [if_neg (fun y => z y.2), getD_ap1 _ _ _ (by omega)]; exact e j (by omega)
theorem t_X10_compare {h0 hh : AH} (l : Lay hh) {T : Told} (o : okT' T) {row : List Nat} (r7 : row.length ≤ 7) {B : Bst} (S : StC h0 hh T row B) (ob : okBst T B) {v a : Nat} (v1 : 1 ≤ v) (v7 : v ≤ 700) (ha : a ≤ 200) : wp (f_X10_compare (some 28) (nI row.length) (nI v) (nI a) hh) (fun r h' => r = () ∧ StC h0 h' T row (cmpB T row v a B)) := by
  obtain ⟨s1, s2, s3, s4, s5, s6, s7⟩ := S
  have l48 := o.2.2.2.1
  have b700 : B.1 ≤ 700 := by rcases ob with e | e; rw [e]; omega; exact e.2.1
  have set : a ≤ tL T → wp (pI hh [10] (some 28) 11 (nI v) fun h4 =>
        pI h4 [10] (some 28) 12 (nI a) fun h5 =>
        pI h5 [10] (some 28) 10 (nI row.length) fun h6 =>
        fR h6 [10] (some 28) 7 fun v7 =>
        fR h6 [10] (some 28) 9 fun v8 =>
        cpI h6 v7 (0 : Int32) v8 (0 : Int32) (nI row.length) fun h9 =>
        some ((), h9)) (fun r h' => r = () ∧ StC h0 h' T row (v, a, row)) := by
    intro la
    have s33 : (hS (wI (wI (wI hh 28 11 (nI v)) 28 12 (nI a)) 28 10 (nI row.length)))[33]? = some (20, 7) := l.s33
    have s34 : (hS (wI (wI (wI hh 28 11 (nI v)) 28 12 (nI a)) 28 10 (nI row.length)))[34]? = some (20, 7) := l.s34
    have cp := fun K Q => wp_cpI (α := Unit) (i := 0) (j := 0) (n := row.length) s33 s34 (by omega) (by omega) (by decide) (by decide) K Q
    rw [nI_z] at cp
    simp (config := {decide := true, maxSteps := 5000000}) (disch := omega) only [↓reduceIte, ↓wp_some, ↓wp_none, wp_ite, ↓wp_cl, ↓wp_rz, ↓wp_nz, ↓wp_nzL, ↓wp_fI, ↓wp_fL, ↓wp_fR, ↓wp_pI, ↓wp_pL, ↓wp_pR, ↓wp_pZ, ↓wp_aI, ↓wp_aL, ↓wp_aR, ↓wp_bI, ↓wp_bL, ↓wp_bR, ↓wp_rO, ↓wp_cO, ↓wp_nO, ↓wp_iO, ↓wp_tbI, ↓wp_tbL, ↓wp_jn, q_okT, q_okA, q_gI, q_gL, q_gR, q_sI, q_sL, q_sR, q_SI, q_SL, q_SR, q_II, q_IL, q_IR, q_LI, q_LL, q_LR, q_RI, q_RL, q_RR, List.contains_cons, List.contains_nil, Nat.reduceBEq, Nat.reduceEqDiff, beq_self_eq_true, Bool.or_false, Bool.false_or, Bool.true_or, Bool.or_true, Bool.and_true, Bool.true_and, Bool.false_and, Bool.and_false, if_true, if_false, Bool.false_eq_true, true_and, and_true, false_and, and_false, and_self, not_true, not_false_iff, reduceCtorEq, forall_const, false_imp_iff, true_imp_iff, true_or, or_true, false_or, or_false, l.r0_0, l.r0_1, l.r0_2, l.r0_3, l.r0_4, l.r0_5, l.r1_1, l.r1_2, l.r1_4, l.r1_6, l.r1_7, l.r1_8, l.r8_0, l.r8_3, l.r8_4, l.r8_5, l.r8_6, l.r8_7, l.r8_8, l.r8_9, l.r9_1, l.r9_2, l.r9_3, l.r9_4, l.r9_9, l.r21_0, l.r21_1, l.r21_3, l.r21_4, l.r21_5, l.r21_6, l.r21_7, l.r21_8, l.r28_3, l.r28_4, l.r28_5, l.r28_6, l.r28_7, l.r28_9, l.r35_0, l.r35_1, l.r35_2, l.r35_3, l.r35_4, l.r35_5, l.r36_4, l.r38_4, l.r40_4, l.r42_4, l.r44_4, l.r46_4, l.s0, l.s1, l.s2, l.s3, l.s4, l.s5, l.s6, l.s7, l.s8, l.s9, l.s10, l.s11, l.s12, l.s13, l.s14, l.s15, l.s16, l.s17, l.s18, l.s19, l.s20, l.s21, l.s22, l.s23, l.s24, l.s25, l.s26, l.s27, l.s28, l.s29, l.s30, l.s31, l.s32, l.s33, l.s34, l.s35, l.s36, l.s37, l.s38, l.s39, l.s40, l.s41, l.s42, l.s43, l.s44, l.s45, l.s46, l.s47, l.s48, cp]
    have sd := (((s1.wI 28 11 (nI v) (by omega) rfl).wI 28 12 (nI a) (by omega) rfl).wI 28 10 (nI row.length) (by omega) rfl).rwI 34 (va_cpy (hI (wI (wI (wI hh 28 11 (nI v)) 28 12 (nI a)) 28 10 (nI row.length)) 33) (hI (wI (wI (wI hh 28 11 (nI v)) 28 12 (nI a)) 28 10 (nI row.length)) 34) 0 0 row.length) (by omega) (fun _ => rfl)
    refine ⟨sd, ?_, ?_, ?_, fun j hj => ?_, ?_, fun _ => ⟨?_, ?_, fun j hj => ?_⟩⟩
    · rw [q_IrI, if_neg (by decide)]; exact s2
    · rw [q_IrI, if_neg (by decide)]; exact s3
    · rw [q_IrI, if_neg (by decide)]; exact s4
    · rw [q_IrI, if_neg (by decide)]; exact s5 j hj
    · rw [q_IrI, if_neg (by decide)]; rfl
    · rw [q_IrI, if_neg (by decide)]; rfl
    · rw [q_IrI, if_neg (by decide)]; rfl
    · have hj : j < row.length := hj
      rw [q_IrI, if_pos rfl]
      show (if 0 ≤ j ∧ j < 0 + row.length then hI hh 33 (0 + (j - 0)) else _) = nI (row.getD j 0)
      rw [if_pos (by omega), show 0 + (j - 0) = j by omega]
      exact s5 j hj
  have lt1 : ∀ x y : Nat, x < 2 ^ 31 → y < 2 ^ 31 → (nI x < nI y) = (x < y) := fun x y hx hy => propext (nI_ltI hx hy)
  have eq1 : ∀ x y : Nat, x < 2 ^ 31 → y < 2 ^ 31 → (nI x = nI y) = (x = y) := fun x y hx hy => propext (nI_eq hx hy)
  have l1 := lt1 (tL T) a (by omega) (by omega)
  have l2 := lt1 v B.1 (by omega) (by omega)
  have l3 := eq1 v B.1 (by omega) (by omega)
  have o28 : (hS hh)[28]? = some (10, 16) := l.s28
  unfold f_X10_compare cmpB
  by_cases c1 : tL T < a
  · rw [if_neg (fun y => by omega)]
    simp (config := {decide := true, maxSteps := 5000000}) (disch := omega) only [↓reduceIte, ↓wp_some, ↓wp_none, wp_ite, ↓wp_cl, ↓wp_rz, ↓wp_nz, ↓wp_nzL, ↓wp_fI, ↓wp_fL, ↓wp_fR, ↓wp_pI, ↓wp_pL, ↓wp_pR, ↓wp_pZ, ↓wp_aI, ↓wp_aL, ↓wp_aR, ↓wp_bI, ↓wp_bL, ↓wp_bR, ↓wp_rO, ↓wp_cO, ↓wp_nO, ↓wp_iO, ↓wp_tbI, ↓wp_tbL, ↓wp_jn, q_okT, q_okA, q_gI, q_gL, q_gR, q_sI, q_sL, q_sR, q_SI, q_SL, q_SR, q_II, q_IL, q_IR, q_LI, q_LL, q_LR, q_RI, q_RL, q_RR, List.contains_cons, List.contains_nil, Nat.reduceBEq, Nat.reduceEqDiff, beq_self_eq_true, Bool.or_false, Bool.false_or, Bool.true_or, Bool.or_true, Bool.and_true, Bool.true_and, Bool.false_and, Bool.and_false, if_true, if_false, Bool.false_eq_true, true_and, and_true, false_and, and_false, and_self, not_true, not_false_iff, reduceCtorEq, forall_const, false_imp_iff, true_imp_iff, true_or, or_true, false_or, or_false, o28, s4, l1, c1]
    exact ⟨s1, s2, s3, s4, s5, s6, s7⟩
  by_cases c2 : v < B.1
  · rw [if_neg (fun y => by omega)]
    simp (config := {decide := true, maxSteps := 5000000}) (disch := omega) only [↓reduceIte, ↓wp_some, ↓wp_none, wp_ite, ↓wp_cl, ↓wp_rz, ↓wp_nz, ↓wp_nzL, ↓wp_fI, ↓wp_fL, ↓wp_fR, ↓wp_pI, ↓wp_pL, ↓wp_pR, ↓wp_pZ, ↓wp_aI, ↓wp_aL, ↓wp_aR, ↓wp_bI, ↓wp_bL, ↓wp_bR, ↓wp_rO, ↓wp_cO, ↓wp_nO, ↓wp_iO, ↓wp_tbI, ↓wp_tbL, ↓wp_jn, q_okT, q_okA, q_gI, q_gL, q_gR, q_sI, q_sL, q_sR, q_SI, q_SL, q_SR, q_II, q_IL, q_IR, q_LI, q_LL, q_LR, q_RI, q_RL, q_RR, List.contains_cons, List.contains_nil, Nat.reduceBEq, Nat.reduceEqDiff, beq_self_eq_true, Bool.or_false, Bool.false_or, Bool.true_or, Bool.or_true, Bool.and_true, Bool.true_and, Bool.false_and, Bool.and_false, if_true, if_false, Bool.false_eq_true, true_and, and_true, false_and, and_false, and_self, not_true, not_false_iff, reduceCtorEq, forall_const, false_imp_iff, true_imp_iff, true_or, or_true, false_or, or_false, o28, s4, s6, l1, l2, c1, c2]
    exact ⟨s1, s2, s3, s4, s5, s6, s7⟩
  have st := set (by omega)
  simp (config := {decide := true, maxSteps := 5000000}) (disch := omega) only [↓reduceIte, ↓wp_some, ↓wp_none, wp_ite, ↓wp_cl, ↓wp_rz, ↓wp_nz, ↓wp_nzL, ↓wp_fI, ↓wp_fL, ↓wp_fR, ↓wp_pI, ↓wp_pL, ↓wp_pR, ↓wp_pZ, ↓wp_aI, ↓wp_aL, ↓wp_aR, ↓wp_bI, ↓wp_bL, ↓wp_bR, ↓wp_rO, ↓wp_cO, ↓wp_nO, ↓wp_iO, ↓wp_tbI, ↓wp_tbL, ↓wp_jn, q_okT, q_okA, q_gI, q_gL, q_gR, q_sI, q_sL, q_sR, q_SI, q_SL, q_SR, q_IL, q_IR, q_LI, q_LR, q_RI, q_RL, List.contains_cons, List.contains_nil, Nat.reduceBEq, Nat.reduceEqDiff, beq_self_eq_true, Bool.or_false, Bool.false_or, Bool.true_or, Bool.or_true, Bool.and_true, Bool.true_and, Bool.false_and, Bool.and_false, if_true, if_false, Bool.false_eq_true, true_and, and_true, false_and, and_false, and_self, not_true, not_false_iff, reduceCtorEq, forall_const, false_imp_iff, true_imp_iff, true_or, or_true, false_or, or_false] at st
  by_cases c3 : v = B.1
  · obtain ⟨e12, -, -⟩ := s7 (by omega)
    have b48 : B.2.1 ≤ 48 := by
      rcases ob with e | e
      · rw [e] at c3; exact absurd c3 (by show ¬ v = 0; omega)
      · exact e.2.2.1
    have l4 := lt1 a B.2.1 (by omega) (by omega)
    by_cases c4 : a < B.2.1
    · rw [if_pos ⟨by omega, Or.inr ⟨c3.symm, c4⟩⟩]
      simp (config := {decide := true, maxSteps := 5000000}) (disch := omega) only [↓reduceIte, ↓wp_some, ↓wp_none, wp_ite, ↓wp_cl, ↓wp_rz, ↓wp_nz, ↓wp_nzL, ↓wp_fI, ↓wp_fL, ↓wp_fR, ↓wp_pI, ↓wp_pL, ↓wp_pR, ↓wp_pZ, ↓wp_aI, ↓wp_aL, ↓wp_aR, ↓wp_bI, ↓wp_bL, ↓wp_bR, ↓wp_rO, ↓wp_cO, ↓wp_nO, ↓wp_iO, ↓wp_tbI, ↓wp_tbL, ↓wp_jn, q_okT, q_okA, q_gI, q_gL, q_gR, q_sI, q_sL, q_sR, q_SI, q_SL, q_SR, q_IL, q_IR, q_LI, q_LR, q_RI, q_RL, List.contains_cons, List.contains_nil, Nat.reduceBEq, Nat.reduceEqDiff, beq_self_eq_true, Bool.or_false, Bool.false_or, Bool.true_or, Bool.or_true, Bool.and_true, Bool.true_and, Bool.false_and, Bool.and_false, if_true, if_false, Bool.false_eq_true, true_and, and_true, false_and, and_false, and_self, not_true, not_false_iff, reduceCtorEq, forall_const, false_imp_iff, true_imp_iff, true_or, or_true, false_or, or_false, o28, s4, s6, e12, l1, l2, l3, l4, c1, c2, eq_true c3, c4]
      simp (config := {decide := true, maxSteps := 5000000}) (disch := omega) only [o28, true_and, beq_self_eq_true] at st
      exact st
    · rw [if_neg (fun y => by omega)]
      simp (config := {decide := true, maxSteps := 5000000}) (disch := omega) only [↓reduceIte, ↓wp_some, ↓wp_none, wp_ite, ↓wp_cl, ↓wp_rz, ↓wp_nz, ↓wp_nzL, ↓wp_fI, ↓wp_fL, ↓wp_fR, ↓wp_pI, ↓wp_pL, ↓wp_pR, ↓wp_pZ, ↓wp_aI, ↓wp_aL, ↓wp_aR, ↓wp_bI, ↓wp_bL, ↓wp_bR, ↓wp_rO, ↓wp_cO, ↓wp_nO, ↓wp_iO, ↓wp_tbI, ↓wp_tbL, ↓wp_jn, q_okT, q_okA, q_gI, q_gL, q_gR, q_sI, q_sL, q_sR, q_SI, q_SL, q_SR, q_IL, q_IR, q_LI, q_LR, q_RI, q_RL, List.contains_cons, List.contains_nil, Nat.reduceBEq, Nat.reduceEqDiff, beq_self_eq_true, Bool.or_false, Bool.false_or, Bool.true_or, Bool.or_true, Bool.and_true, Bool.true_and, Bool.false_and, Bool.and_false, if_true, if_false, Bool.false_eq_true, true_and, and_true, false_and, and_false, and_self, not_true, not_false_iff, reduceCtorEq, forall_const, false_imp_iff, true_imp_iff, true_or, or_true, false_or, or_false, o28, s4, s6, e12, l1, l2, l3, l4, c1, c2, eq_true c3, c4]
      exact ⟨s1, s2, s3, s4, s5, s6, s7⟩
  · rw [if_pos ⟨by omega, Or.inl (by omega)⟩]
    simp (config := {decide := true, maxSteps := 5000000}) (disch := omega) only [↓reduceIte, ↓wp_some, ↓wp_none, wp_ite, ↓wp_cl, ↓wp_rz, ↓wp_nz, ↓wp_nzL, ↓wp_fI, ↓wp_fL, ↓wp_fR, ↓wp_pI, ↓wp_pL, ↓wp_pR, ↓wp_pZ, ↓wp_aI, ↓wp_aL, ↓wp_aR, ↓wp_bI, ↓wp_bL, ↓wp_bR, ↓wp_rO, ↓wp_cO, ↓wp_nO, ↓wp_iO, ↓wp_tbI, ↓wp_tbL, ↓wp_jn, q_okT, q_okA, q_gI, q_gL, q_gR, q_sI, q_sL, q_sR, q_SI, q_SL, q_SR, q_IL, q_IR, q_LI, q_LR, q_RI, q_RL, List.contains_cons, List.contains_nil, Nat.reduceBEq, Nat.reduceEqDiff, beq_self_eq_true, Bool.or_false, Bool.false_or, Bool.true_or, Bool.or_true, Bool.and_true, Bool.true_and, Bool.false_and, Bool.and_false, if_true, if_false, Bool.false_eq_true, true_and, and_true, false_and, and_false, and_self, not_true, not_false_iff, reduceCtorEq, forall_const, false_imp_iff, true_imp_iff, true_or, or_true, false_or, or_false, o28, s4, s6, l1, l2, l3, c1, c2, c3]
    simp (config := {decide := true, maxSteps := 5000000}) (disch := omega) only [o28, true_and, beq_self_eq_true] at st
    exact st
theorem wOn_late {T : Told} {t : Nat} (h : tL T < t) (f : Nat) (row : List Nat) (u c v : Nat) (B : Bst) : wOn T f row u c t v B = B := by
  cases f with
  | zero => rfl
  | succ f => rw [wOn_s, if_pos h]
theorem cmpB_late {T : Told} {a : Nat} (h : tL T < a) (row : List Nat) (v : Nat) (B : Bst) : cmpB T row v a B = B := if_neg (fun y => by omega)
theorem pc7_full : ∀ u : Nat, u < 128 → pc7 u = 7 → ∀ i : Nat, i < 7 → u.testBit i = true := by decide +kernel
theorem foldN_id {α : Type} {g : Nat → α → α} {x : α} {n : Nat} (h : ∀ i y, i < n → g i y = y) : foldN g x n = x := by
  induction n with
  | zero => rfl
  | succ n ih => show g n (foldN g x n) = x; rw [h n _ (by omega)]; exact ih (fun i y hi => h i y (by omega))
theorem foldN_S {α : Type} (g : Nat → α → α) (x : α) (n : Nat) : foldN g x (n + 1) = g n (foldN g x n) := rfl
