/-! FRAMES: what a call that writes leaves as it was -/
def sigB (w : AH) := (hI w 49 3, hI w 49 13, hI w 49 17, hI w 51, hI w 52, hI w 53, hI w 54, hI w 55, hI w 56, hI w 57, hI w 59, hI w 60, hI w 63, hI w 64, hI w 65, hI w 66, hI w 67, hI w 86, hI w 87, hI w 88, hI w 89, hI w 90, hI w 98)
def sigD (w : AH) := (hI w 49 3, hI w 51, hI w 80, hI w 81, hI w 82, hI w 83, hI w 84)
theorem RB.wc {h w w1 : AH} {ad : Nat → Nat} (B : RB h w ad) (e : sigB w1 = sigB w) : RB h w1 ad := by
  unfold sigB at e
  simp only [Prod.mk.injEq] at e
  obtain ⟨e1, e2, e3, e4, e5, e6, e7, e8, e9, e10, e11, e12, e13, e14, e15, e16, e17, e18, e19, e20, e21, e22, e23⟩ := e
  have n1 : nB w1 = nB w := by unfold nB; rw [e1]
  have n2 : nM w1 = nM w := by unfold nM; rw [e2]
  have n3 : nL w1 = nL w := by unfold nL; rw [e3]
  have c : cellNow_ w1 = cellNow_ w := by funext i; unfold cellNow_; rw [e11, e12, e5, n2]
  have f : isFound_ w1 = isFound_ w := by funext i l; unfold isFound_; rw [e13, e15]
  have bh : behind_ w1 = behind_ w := by funext i l; unfold behind_; rw [e14]
  have ff : finds_ w1 = finds_ w := by funext i; unfold finds_; rw [f, n3]
  have lt : latest_ w1 = latest_ w := by funext i; unfold latest_; rw [f, bh, n3]
  have ms : misses_ w1 = misses_ w := by funext i; unfold misses_; rw [lt, n3]; congr 1; funext l; unfold isMiss_; rw [e13, e15, bh]
  obtain ⟨b1, b2, b3, b4, b5⟩ := B
  refine ⟨?_, ?_, ?_, ?_, ?_⟩
  · unfold RBs at *; rw [n1, e1, e4]; exact b1
  · unfold RBf at *; rw [n1, e4, e5, e6, e7]; exact b2
  · unfold RBx at *; rw [n1, e4, e5, e6, e7, e8, e9, c, ff, lt, ms, e16, e21, e23]; exact b3
  · unfold RBr at *; rw [n1, e4, e9, e10, e16, e17, e21, e22]; exact b4
  · unfold RBt at *; rw [n1, e4, e18, e19, e20]; exact b5
theorem RBd.wc {h w w1 : AH} {ad : Nat → Nat} (B : RBd h w ad) (e : sigD w1 = sigD w) : RBd h w1 ad := by
  unfold sigD at e
  simp only [Prod.mk.injEq] at e
  obtain ⟨e1, e2, e3, e4, e5, e6, e7⟩ := e
  have n1 : nB w1 = nB w := by unfold nB; rw [e1]
  have lt : letters_ w1 = letters_ w := by funext b; unfold letters_; rw [e3, e4, e5, e6]
  have td : told_ w1 = told_ w := by funext b s; unfold told_; rw [e3, e4]
  unfold RBd at *
  rw [n1, e2, e3, lt, td, e4, e5, e6, e7]
  exact B
/-- the class's bodies under writes into the fixed cells -/
theorem RB.hc {h w h1 : AH} {ad : Nat → Nat} (B : RB h w ad) (eS : hS h1 = hS h) (e13 : hI h1 1 3 = hI h 1 3) (e : ∀ a, 49 ≤ a → hI h1 a = hI h a) (r3 : hR h1 3 = hR h 3) (r : ∀ a, 49 ≤ a → hR h1 a = hR h a) : RB h1 w ad := by
  have g : ∀ b, b < nB w → 49 ≤ ad b := fun b hb => ad_ge B.1 (by omega)
  refine ⟨⟨B.1.1, by rw [eS]; exact B.1.2.1, by rw [e13]; exact B.1.2.2.1, fun b hb => ?_⟩, fun b hb hk => ?_, fun b hb hk => ?_, fun b hb hk => ?_, fun b hb hk => ?_⟩
  · have := g b hb
    rw [eS, r3, e _ this, r _ this, r (ad b + 4) (by omega)]
    exact B.1.2.2.2 b hb
  · rw [e _ (g b hb)]; exact B.2.1 b hb hk
  · rw [e _ (g b hb)]; exact B.2.2.1 b hb hk
  · have := g b hb
    rw [e (ad b + 1) (by omega), e (ad b + 2) (by omega), e (ad b + 3) (by omega)]; exact B.2.2.2.1 b hb hk
  · have := g b hb
    rw [e _ this, e (ad b + 1) (by omega), e (ad b + 2) (by omega)]; exact B.2.2.2.2 b hb hk
theorem RBd.hc {h w h1 : AH} {ad : Nat → Nat} (D : RBd h w ad) (B : RB h w ad) (e : ∀ a, 49 ≤ a → hI h1 a = hI h a) : RBd h1 w ad := by
  intro b hb hk
  have := ad_ge B.1 (show b ≤ nB w by omega)
  rw [e (ad b + 4) (by omega), e (ad b + 5) (by omega), e (ad b + 6) (by omega), e (ad b + 7) (by omega), e (ad b + 8) (by omega), e (ad b + 9) (by omega)]
  exact D b hb hk
theorem RC.fix {h w h1 w1 : AH} {P P1 : Nat → Prog} {ad : Nat → Nat} (R : RC h w P ad) (l1 : Lay h1) (eS : hS h1 = hS h) (e13 : hI h1 1 3 = hI h 1 3) (e : ∀ a, 49 ≤ a → hI h1 a = hI h a) (r3 : hR h1 3 = hR h 3) (r : ∀ a, 49 ≤ a → hR h1 a = hR h a) (sB : sigB w1 = sigB w) (sD : sigD w1 = sigD w) (g : Rg h1 w1) (m : Rm h1 w1) (ll : Rl h1 w1) (rr : Rr h1 w1 P1) (t : Rt h1 w1) (k : Rk h1 w1 ad) (s : Rs h1 w1 ad) (a : Ra h1 w1) : RC h1 w1 P1 ad :=
  ⟨l1, g, m, ll, rr, t, k, s, a, (R.B.hc eS e13 e r3 r).wc sB, (R.dd.hc R.B e).wc sD⟩
/-! GROUND: days, owner, step -/
def s_owner (w : AH) (c o : Int32) : Int32 × AH := if (0 ≤ c ∧ c < 60) ∧ -1 ≤ o ∧ o ≤ 9 then (hI w 50 (c.toNatClampNeg) - 1, wI w 50 c.toNatClampNeg (o + 1)) else (-2000000000, w)
theorem RC.owner {h w : AH} {P : Nat → Prog} {ad : Nat → Nat} (R : RC h w P ad) (c : Nat) (o : Int32) : RC (wI h 2 c o) (wI w 50 c (o + 1)) P ad := by
  refine R.fix (R.l.wI _ _ _) rfl rfl (fun a ha => q_ne (by omega)) rfl (fun _ _ => rfl) rfl rfl ?_ ?_ ?_ ?_ ?_ ?_ ?_ ?_
  · refine ⟨R.td, fun x hx => ?_, R.st, R.i4⟩
    rw [q_II, q_II]
    by_cases z : x = c
    · rw [if_pos ⟨rfl, z⟩, if_pos ⟨rfl, z⟩]; grind
    · rw [if_neg (fun y => z y.2), if_neg (fun y => z y.2)]; exact R.ow hx
  · exact R.mm
  · exact R.ll
  · exact R.rr
  · exact R.tt
  · exact R.kk
  · intro s hs; have := R.ss s hs; unfold shelfAt_ at *; rw [q_ne (show 36 + 2 * s ≠ 2 by omega)]; exact this
  · exact R.aa
theorem c_owner {h w : AH} {P : Nat → Prog} {ad : Nat → Nat} (R : RC h w P ad) (c o : Int32) : wp (f_X11_owner (some 0) c o h) (fun v h' => v = (s_owner w c o).1 ∧ RC h' (s_owner w c o).2 P ad ∧ SM h h') := by
  have l := R.l
  have s := SM.refl h
  unfold f_X11_owner s_owner
  by_cases z : 0 ≤ c ∧ c < 60
  · obtain ⟨k, hk, rfl⟩ := nI_in0 (n := 60) z.1 (by omega) z.2
    have e := R.owner k o
    have s2 := (SM.refl h).wI 2 k o (by omega)
    simp (config := {maxSteps := 5000000}) (disch := omega) only [↓reduceIte, ↓wp_some, ↓wp_none, wp_ite, ↓wp_cl, ↓wp_rz, ↓wp_nz, ↓wp_nzL, ↓wp_fI, ↓wp_fL, ↓wp_fR, ↓wp_pI, ↓wp_pL, ↓wp_pR, ↓wp_pZ, ↓wp_aI, ↓wp_aL, ↓wp_aR, ↓wp_bI, ↓wp_bL, ↓wp_bR, ↓wp_rO, ↓wp_cO, ↓wp_nO, ↓wp_iO, ↓wp_tbI, ↓wp_tbL, ↓wp_jn, q_okT, q_okA, q_gI, q_gL, q_gR, q_sI, q_sL, q_sR, q_SI, q_SL, q_SR, q_IL, q_IR, q_LI, q_LR, q_RI, q_RL, List.contains_cons, List.contains_nil, Nat.reduceBEq, Nat.reduceEqDiff, beq_self_eq_true, Bool.or_false, Bool.false_or, Bool.true_or, Bool.or_true, Bool.and_true, Bool.true_and, Bool.false_and, Bool.and_false, if_true, if_false, Bool.false_eq_true, true_and, and_true, false_and, and_false, and_self, not_true, not_false_iff, reduceCtorEq, forall_const, false_imp_iff, true_imp_iff, true_or, or_true, false_or, or_false, l.r0_0, l.r0_1, l.r0_2, l.r0_3, l.r0_4, l.r0_5, l.r1_1, l.r1_2, l.r1_4, l.r1_6, l.r1_7, l.r1_8, l.r8_0, l.r8_3, l.r8_4, l.r8_5, l.r8_6, l.r8_7, l.r8_8, l.r8_9, l.r9_1, l.r9_2, l.r9_3, l.r9_4, l.r9_9, l.r21_0, l.r21_1, l.r21_3, l.r21_4, l.r21_5, l.r21_6, l.r21_7, l.r21_8, l.r28_3, l.r28_4, l.r28_5, l.r28_6, l.r28_7, l.r28_9, l.r35_0, l.r35_1, l.r35_2, l.r35_3, l.r35_4, l.r35_5, l.r36_4, l.r38_4, l.r40_4, l.r42_4, l.r44_4, l.r46_4, l.s0, l.s1, l.s2, l.s3, l.s4, l.s5, l.s6, l.s7, l.s8, l.s9, l.s10, l.s11, l.s12, l.s13, l.s14, l.s15, l.s16, l.s17, l.s18, l.s19, l.s20, l.s21, l.s22, l.s23, l.s24, l.s25, l.s26, l.s27, l.s28, l.s29, l.s30, l.s31, l.s32, l.s33, l.s34, l.s35, l.s36, l.s37, l.s38, l.s39, l.s40, l.s41, l.s42, l.s43, l.s44, l.s45, l.s46, l.s47, l.s48, n1_0, m1neg, ne_eq, nle2, n24, n10, nle, b10, b11, am1, n0m1, Int32.add_zero, Int32.zero_add, ite_true, ite_false, Bool.and_eq_true, nI_m4, nI_m5, nI_m8, nI_m10, nI_m12, nI_m24, nI_m31, nI_m40, nI_m60, nI_m81, nI_m161, nI_m170, nI_p2, nI_p3, nI_p4, nI_p5, nI_p6, nI_pred, nI_leI, nI_ltI, nI_eq, nI_clamp, nI_neg, nI_ge0, nI_neg1, nI_1, nI_add, nI_mul, dle, decide_true, decide_false, Bool.not_true, Bool.not_false, decide_eq_true_eq, wp_use (t_X11_isCell _ _), z, R.ow hk]
    grind
  · simp (config := {maxSteps := 5000000}) (disch := omega) only [↓reduceIte, ↓wp_some, ↓wp_none, wp_ite, ↓wp_cl, ↓wp_rz, ↓wp_nz, ↓wp_nzL, ↓wp_fI, ↓wp_fL, ↓wp_fR, ↓wp_pI, ↓wp_pL, ↓wp_pR, ↓wp_pZ, ↓wp_aI, ↓wp_aL, ↓wp_aR, ↓wp_bI, ↓wp_bL, ↓wp_bR, ↓wp_rO, ↓wp_cO, ↓wp_nO, ↓wp_iO, ↓wp_tbI, ↓wp_tbL, ↓wp_jn, q_okT, q_okA, q_gI, q_gL, q_gR, q_sI, q_sL, q_sR, q_SI, q_SL, q_SR, q_IL, q_IR, q_LI, q_LR, q_RI, q_RL, List.contains_cons, List.contains_nil, Nat.reduceBEq, Nat.reduceEqDiff, beq_self_eq_true, Bool.or_false, Bool.false_or, Bool.true_or, Bool.or_true, Bool.and_true, Bool.true_and, Bool.false_and, Bool.and_false, if_true, if_false, Bool.false_eq_true, true_and, and_true, false_and, and_false, and_self, not_true, not_false_iff, reduceCtorEq, forall_const, false_imp_iff, true_imp_iff, true_or, or_true, false_or, or_false, l.r0_0, l.r0_1, l.r0_2, l.r0_3, l.r0_4, l.r0_5, l.r1_1, l.r1_2, l.r1_4, l.r1_6, l.r1_7, l.r1_8, l.r8_0, l.r8_3, l.r8_4, l.r8_5, l.r8_6, l.r8_7, l.r8_8, l.r8_9, l.r9_1, l.r9_2, l.r9_3, l.r9_4, l.r9_9, l.r21_0, l.r21_1, l.r21_3, l.r21_4, l.r21_5, l.r21_6, l.r21_7, l.r21_8, l.r28_3, l.r28_4, l.r28_5, l.r28_6, l.r28_7, l.r28_9, l.r35_0, l.r35_1, l.r35_2, l.r35_3, l.r35_4, l.r35_5, l.r36_4, l.r38_4, l.r40_4, l.r42_4, l.r44_4, l.r46_4, l.s0, l.s1, l.s2, l.s3, l.s4, l.s5, l.s6, l.s7, l.s8, l.s9, l.s10, l.s11, l.s12, l.s13, l.s14, l.s15, l.s16, l.s17, l.s18, l.s19, l.s20, l.s21, l.s22, l.s23, l.s24, l.s25, l.s26, l.s27, l.s28, l.s29, l.s30, l.s31, l.s32, l.s33, l.s34, l.s35, l.s36, l.s37, l.s38, l.s39, l.s40, l.s41, l.s42, l.s43, l.s44, l.s45, l.s46, l.s47, l.s48, n1_0, m1neg, ne_eq, nle2, n24, n10, nle, b10, b11, am1, n0m1, Int32.add_zero, Int32.zero_add, ite_true, ite_false, Bool.and_eq_true, nI_m4, nI_m5, nI_m8, nI_m10, nI_m12, nI_m24, nI_m31, nI_m40, nI_m60, nI_m81, nI_m161, nI_m170, nI_p2, nI_p3, nI_p4, nI_p5, nI_p6, nI_pred, nI_leI, nI_ltI, nI_eq, nI_clamp, nI_neg, nI_ge0, nI_neg1, nI_1, nI_add, nI_mul, dle, decide_true, decide_false, Bool.not_true, Bool.not_false, decide_eq_true_eq, wp_use (t_X11_isCell _ _), z]
    grind
def s_step (w : AH) (c : Int32) : Int32 × AH := if 0 ≤ c ∧ c < 60 then (if nS w = 4 then (-3, w) else (nI (nS w + 1), wI (wI w 58 (nS w) c) 49 11 (nI (nS w + 1)))) else (-1, w)
theorem RC.step {h w : AH} {P : Nat → Prog} {ad : Nat → Nat} (R : RC h w P ad) (k : Nat) (c v : Int32) : RC (wI (wI h 4 k c) 1 5 v) (wI (wI w 58 k c) 49 11 v) P ad := by
  refine R.fix ((R.l.wI _ _ _).wI _ _ _) rfl rfl (fun a ha => by rw [q_ne (by omega), q_ne (by omega)]) rfl (fun _ _ => rfl) rfl rfl ?_ ?_ ?_ ?_ ?_ ?_ ?_ ?_
  · refine ⟨R.td, fun x hx => R.ow hx, rfl, ?_⟩
    funext x
    rw [show hI (wI (wI h 4 k c) 1 5 v) 4 = hI (wI h 4 k c) 4 from q_ne (by decide), show hI (wI (wI w 58 k c) 49 11 v) 58 = hI (wI w 58 k c) 58 from q_ne (by decide), q_II, q_II, R.i4]
    by_cases z : x = k <;> simp [z]
  · exact R.mm
  · exact R.ll
  · exact R.rr
  · exact R.tt
  · exact R.kk
  · intro s hs; have := R.ss s hs; unfold shelfAt_ at *; rw [q_ne (show 36 + 2 * s ≠ 1 by omega), q_ne (show 36 + 2 * s ≠ 4 by omega)]; exact this
  · exact R.aa
theorem c_step {h w : AH} {P : Nat → Prog} {ad : Nat → Nat} (R : RC h w P ad) (n : WN w) (c : Int32) : wp (f_X11_step (some 0) c h) (fun v h' => v = (s_step w c).1 ∧ RC h' (s_step w c).2 P ad ∧ SM h h') := by
  have l := R.l
  have hs := n.s4
  have s := SM.refl h
  unfold f_X11_step s_step
  by_cases z : 0 ≤ c ∧ c < 60
  · by_cases z2 : nS w = 4
    · simp (config := {decide := true, maxSteps := 5000000}) (disch := omega) only [↓reduceIte, ↓wp_some, ↓wp_none, wp_ite, ↓wp_cl, ↓wp_rz, ↓wp_nz, ↓wp_nzL, ↓wp_fI, ↓wp_fL, ↓wp_fR, ↓wp_pI, ↓wp_pL, ↓wp_pR, ↓wp_pZ, ↓wp_aI, ↓wp_aL, ↓wp_aR, ↓wp_bI, ↓wp_bL, ↓wp_bR, ↓wp_rO, ↓wp_cO, ↓wp_nO, ↓wp_iO, ↓wp_tbI, ↓wp_tbL, ↓wp_jn, q_okT, q_okA, q_gI, q_gL, q_gR, q_sI, q_sL, q_sR, q_SI, q_SL, q_SR, q_IL, q_IR, q_LI, q_LR, q_RI, q_RL, List.contains_cons, List.contains_nil, Nat.reduceBEq, Nat.reduceEqDiff, beq_self_eq_true, Bool.or_false, Bool.false_or, Bool.true_or, Bool.or_true, Bool.and_true, Bool.true_and, Bool.false_and, Bool.and_false, if_true, if_false, Bool.false_eq_true, true_and, and_true, false_and, and_false, and_self, not_true, not_false_iff, reduceCtorEq, forall_const, false_imp_iff, true_imp_iff, true_or, or_true, false_or, or_false, l.r0_0, l.r0_1, l.r0_2, l.r0_3, l.r0_4, l.r0_5, l.r1_1, l.r1_2, l.r1_4, l.r1_6, l.r1_7, l.r1_8, l.r8_0, l.r8_3, l.r8_4, l.r8_5, l.r8_6, l.r8_7, l.r8_8, l.r8_9, l.r9_1, l.r9_2, l.r9_3, l.r9_4, l.r9_9, l.r21_0, l.r21_1, l.r21_3, l.r21_4, l.r21_5, l.r21_6, l.r21_7, l.r21_8, l.r28_3, l.r28_4, l.r28_5, l.r28_6, l.r28_7, l.r28_9, l.r35_0, l.r35_1, l.r35_2, l.r35_3, l.r35_4, l.r35_5, l.r36_4, l.r38_4, l.r40_4, l.r42_4, l.r44_4, l.r46_4, l.s0, l.s1, l.s2, l.s3, l.s4, l.s5, l.s6, l.s7, l.s8, l.s9, l.s10, l.s11, l.s12, l.s13, l.s14, l.s15, l.s16, l.s17, l.s18, l.s19, l.s20, l.s21, l.s22, l.s23, l.s24, l.s25, l.s26, l.s27, l.s28, l.s29, l.s30, l.s31, l.s32, l.s33, l.s34, l.s35, l.s36, l.s37, l.s38, l.s39, l.s40, l.s41, l.s42, l.s43, l.s44, l.s45, l.s46, l.s47, l.s48, n1_0, m1neg, ne_eq, nle2, n24, n10, nle, b10, b11, am1, n0m1, Int32.add_zero, Int32.zero_add, ite_true, ite_false, Bool.and_eq_true, nI_m4, nI_m5, nI_m8, nI_m10, nI_m12, nI_m24, nI_m31, nI_m40, nI_m60, nI_m81, nI_m161, nI_m170, nI_p2, nI_p3, nI_p4, nI_p5, nI_p6, nI_pred, nI_leI, nI_ltI, nI_eq, nI_clamp, nI_neg, nI_ge0, nI_neg1, nI_1, nI_add, nI_mul, dle, decide_true, decide_false, Bool.not_true, Bool.not_false, decide_eq_true_eq, wp_use (t_X11_isCell _ _), z, R.st, n.s, z2]
      exact ⟨R, s⟩
    · have e := R.step (nS w) c (nI (nS w + 1))
      have s2 := ((SM.refl h).wI 4 (nS w) c (by omega)).wI 1 5 (nI (nS w + 1)) (by omega)
      have z3 : (nI (nS w) < (4 : Int32)) = True := eq_true (by rw [show (4 : Int32) = nI 4 from rfl, nI_ltI (by omega) (by omega)]; omega)
      simp (config := {maxSteps := 5000000}) (disch := omega) only [↓reduceIte, ↓wp_some, ↓wp_none, wp_ite, ↓wp_cl, ↓wp_rz, ↓wp_nz, ↓wp_nzL, ↓wp_fI, ↓wp_fL, ↓wp_fR, ↓wp_pI, ↓wp_pL, ↓wp_pR, ↓wp_pZ, ↓wp_aI, ↓wp_aL, ↓wp_aR, ↓wp_bI, ↓wp_bL, ↓wp_bR, ↓wp_rO, ↓wp_cO, ↓wp_nO, ↓wp_iO, ↓wp_tbI, ↓wp_tbL, ↓wp_jn, q_okT, q_okA, q_gI, q_gL, q_gR, q_sI, q_sL, q_sR, q_SI, q_SL, q_SR, q_IL, q_IR, q_LI, q_LR, q_RI, q_RL, List.contains_cons, List.contains_nil, Nat.reduceBEq, Nat.reduceEqDiff, beq_self_eq_true, Bool.or_false, Bool.false_or, Bool.true_or, Bool.or_true, Bool.and_true, Bool.true_and, Bool.false_and, Bool.and_false, if_true, if_false, Bool.false_eq_true, true_and, and_true, false_and, and_false, and_self, not_true, not_false_iff, reduceCtorEq, forall_const, false_imp_iff, true_imp_iff, true_or, or_true, false_or, or_false, l.r0_0, l.r0_1, l.r0_2, l.r0_3, l.r0_4, l.r0_5, l.r1_1, l.r1_2, l.r1_4, l.r1_6, l.r1_7, l.r1_8, l.r8_0, l.r8_3, l.r8_4, l.r8_5, l.r8_6, l.r8_7, l.r8_8, l.r8_9, l.r9_1, l.r9_2, l.r9_3, l.r9_4, l.r9_9, l.r21_0, l.r21_1, l.r21_3, l.r21_4, l.r21_5, l.r21_6, l.r21_7, l.r21_8, l.r28_3, l.r28_4, l.r28_5, l.r28_6, l.r28_7, l.r28_9, l.r35_0, l.r35_1, l.r35_2, l.r35_3, l.r35_4, l.r35_5, l.r36_4, l.r38_4, l.r40_4, l.r42_4, l.r44_4, l.r46_4, l.s0, l.s1, l.s2, l.s3, l.s4, l.s5, l.s6, l.s7, l.s8, l.s9, l.s10, l.s11, l.s12, l.s13, l.s14, l.s15, l.s16, l.s17, l.s18, l.s19, l.s20, l.s21, l.s22, l.s23, l.s24, l.s25, l.s26, l.s27, l.s28, l.s29, l.s30, l.s31, l.s32, l.s33, l.s34, l.s35, l.s36, l.s37, l.s38, l.s39, l.s40, l.s41, l.s42, l.s43, l.s44, l.s45, l.s46, l.s47, l.s48, n1_0, m1neg, ne_eq, nle2, n24, n10, nle, b10, b11, am1, n0m1, Int32.add_zero, Int32.zero_add, ite_true, ite_false, Bool.and_eq_true, nI_m4, nI_m5, nI_m8, nI_m10, nI_m12, nI_m24, nI_m31, nI_m40, nI_m60, nI_m81, nI_m161, nI_m170, nI_p2, nI_p3, nI_p4, nI_p5, nI_p6, nI_pred, nI_leI, nI_ltI, nI_eq, nI_clamp, nI_neg, nI_ge0, nI_neg1, nI_1, nI_add, nI_mul, dle, decide_true, decide_false, Bool.not_true, Bool.not_false, decide_eq_true_eq, wp_use (t_X11_isCell _ _), z, R.st, n.s, z2, z3, q_ne, q_at]
      exact ⟨e, s2⟩
  · simp (config := {maxSteps := 5000000}) (disch := omega) only [↓reduceIte, ↓wp_some, ↓wp_none, wp_ite, ↓wp_cl, ↓wp_rz, ↓wp_nz, ↓wp_nzL, ↓wp_fI, ↓wp_fL, ↓wp_fR, ↓wp_pI, ↓wp_pL, ↓wp_pR, ↓wp_pZ, ↓wp_aI, ↓wp_aL, ↓wp_aR, ↓wp_bI, ↓wp_bL, ↓wp_bR, ↓wp_rO, ↓wp_cO, ↓wp_nO, ↓wp_iO, ↓wp_tbI, ↓wp_tbL, ↓wp_jn, q_okT, q_okA, q_gI, q_gL, q_gR, q_sI, q_sL, q_sR, q_SI, q_SL, q_SR, q_IL, q_IR, q_LI, q_LR, q_RI, q_RL, List.contains_cons, List.contains_nil, Nat.reduceBEq, Nat.reduceEqDiff, beq_self_eq_true, Bool.or_false, Bool.false_or, Bool.true_or, Bool.or_true, Bool.and_true, Bool.true_and, Bool.false_and, Bool.and_false, if_true, if_false, Bool.false_eq_true, true_and, and_true, false_and, and_false, and_self, not_true, not_false_iff, reduceCtorEq, forall_const, false_imp_iff, true_imp_iff, true_or, or_true, false_or, or_false, l.r0_0, l.r0_1, l.r0_2, l.r0_3, l.r0_4, l.r0_5, l.r1_1, l.r1_2, l.r1_4, l.r1_6, l.r1_7, l.r1_8, l.r8_0, l.r8_3, l.r8_4, l.r8_5, l.r8_6, l.r8_7, l.r8_8, l.r8_9, l.r9_1, l.r9_2, l.r9_3, l.r9_4, l.r9_9, l.r21_0, l.r21_1, l.r21_3, l.r21_4, l.r21_5, l.r21_6, l.r21_7, l.r21_8, l.r28_3, l.r28_4, l.r28_5, l.r28_6, l.r28_7, l.r28_9, l.r35_0, l.r35_1, l.r35_2, l.r35_3, l.r35_4, l.r35_5, l.r36_4, l.r38_4, l.r40_4, l.r42_4, l.r44_4, l.r46_4, l.s0, l.s1, l.s2, l.s3, l.s4, l.s5, l.s6, l.s7, l.s8, l.s9, l.s10, l.s11, l.s12, l.s13, l.s14, l.s15, l.s16, l.s17, l.s18, l.s19, l.s20, l.s21, l.s22, l.s23, l.s24, l.s25, l.s26, l.s27, l.s28, l.s29, l.s30, l.s31, l.s32, l.s33, l.s34, l.s35, l.s36, l.s37, l.s38, l.s39, l.s40, l.s41, l.s42, l.s43, l.s44, l.s45, l.s46, l.s47, l.s48, n1_0, m1neg, ne_eq, nle2, n24, n10, nle, b10, b11, am1, n0m1, Int32.add_zero, Int32.zero_add, ite_true, ite_false, Bool.and_eq_true, nI_m4, nI_m5, nI_m8, nI_m10, nI_m12, nI_m24, nI_m31, nI_m40, nI_m60, nI_m81, nI_m161, nI_m170, nI_p2, nI_p3, nI_p4, nI_p5, nI_p6, nI_pred, nI_leI, nI_ltI, nI_eq, nI_clamp, nI_neg, nI_ge0, nI_neg1, nI_1, nI_add, nI_mul, dle, decide_true, decide_false, Bool.not_true, Bool.not_false, decide_eq_true_eq, wp_use (t_X11_isCell _ _), z]
    exact ⟨R, s⟩
