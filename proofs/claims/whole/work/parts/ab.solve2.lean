/-! solve: the letters told, as bits; the places of x and y -/
theorem lettersN {w : AH} {b m kx ky : Nat} (T : TelW w b m kx ky) : ∀ n, n ≤ m → ∃ U, U < 64 ∧ foldN (fun k v => (v ||| (if hI w 82 (8 * b + k) = 6 then 0 else bitOf (hI w 82 (8 * b + k)))) ||| (if hI w 81 (8 * b + k) ≤ 2 then bitOf (hI w 83 (8 * b + k)) else 0)) 0 n = nI U ∧ ∀ x, x < 6 → U.testBit x = inL w b n x := by
  intro n
  induction n with
  | zero => intro _; exact ⟨0, by omega, rfl, fun x _ => by rw [Nat.zero_testBit]; rfl⟩
  | succ n ih =>
    intro hn
    obtain ⟨U, u1, u2, u3⟩ := ih (by omega)
    obtain ⟨-, ⟨f, hf, ef⟩, -, t4, -⟩ := tel_one (T.2.1 n (by omega))
    have lt64 : ∀ U : Nat, U < 64 → ∀ y : Nat, y < 6 → (U ||| 2 ^ y) < 64 := by decide +kernel
    have tb : ∀ (U y x : Nat), (U ||| 2 ^ y).testBit x = (U.testBit x || decide (y = x)) := fun U y x => by
      rw [Nat.testBit_or, Nat.testBit_two_pow]
    have s1 : ∃ V, V < 64 ∧ nI U ||| (if hI w 82 (8 * b + n) = 6 then 0 else bitOf (hI w 82 (8 * b + n))) = nI V ∧ ∀ x, x < 6 → V.testBit x = (U.testBit x || decide (hI w 82 (8 * b + n) = nI x)) := by
      by_cases c : hI w 82 (8 * b + n) = 6
      · refine ⟨U, u1, by rw [if_pos c, Int32.or_zero], fun x hx => ?_⟩
        rw [c, decide_eq_false (fun e => ?_), Bool.or_false]
        rw [show (6 : Int32) = nI 6 from rfl, nI_eq (by omega) (by omega)] at e
        omega
      · have f6 : f < 6 := by
          rcases Nat.lt_or_ge f 6 with y | y
          · exact y
          · have : f = 6 := by omega
            subst this; exact absurd ef c
        refine ⟨U ||| 2 ^ f, lt64 U u1 f f6, ?_, fun x hx => ?_⟩
        · rw [if_neg c, ef]; exact bit_o U (by omega) f (by omega)
        · rw [tb, ef]
          congr 1
          exact decide_eq_decide.mpr (by rw [nI_eq (by omega) (by omega)])
    obtain ⟨V, v1, v2, v3⟩ := s1
    have s2 : ∃ X, X < 64 ∧ nI V ||| (if hI w 81 (8 * b + n) ≤ 2 then bitOf (hI w 83 (8 * b + n)) else 0) = nI X ∧ ∀ x, x < 6 → X.testBit x = (V.testBit x || (decide (hI w 81 (8 * b + n) ≤ 2) && decide (hI w 83 (8 * b + n) = nI x))) := by
      by_cases c : hI w 81 (8 * b + n) ≤ 2
      · obtain ⟨t, ht, et⟩ := t4 c
        refine ⟨V ||| 2 ^ t, lt64 V v1 t ht, ?_, fun x hx => ?_⟩
        · rw [if_pos c, et]; exact bit_o V (by omega) t (by omega)
        · rw [tb, et, decide_eq_true c, Bool.true_and]
          congr 1
          exact decide_eq_decide.mpr (by rw [nI_eq (by omega) (by omega)])
      · exact ⟨V, v1, by rw [if_neg c, Int32.or_zero], fun x hx => by rw [decide_eq_false c, Bool.false_and, Bool.or_false]⟩
    obtain ⟨X, x1, x2, x3⟩ := s2
    refine ⟨X, x1, by rw [foldN_S, u2, v2, x2], fun x hx => ?_⟩
    rw [x3 x hx, v3 x hx, u3 x hx]
    show _ = (inL w b n x || _)
    rw [Bool.or_assoc]
theorem letters_bit {w : AH} {b m kx ky : Nat} (T : TelW w b m kx ky) (em : hI w 80 b = nI m) {x : Nat} (hx : x < 6) : ((letters_ w b >>> (nI x &&& 31)) &&& 1) = (if inL w b m x = true then 1 else 0) := by
  have h8 := T.1
  obtain ⟨U, u1, u2, u3⟩ := lettersN T m (Nat.le_refl _)
  unfold letters_
  rw [em, nI_clamp (by omega), u2, bit_t U (by omega) x (by omega), u3 x hx]
theorem t_X12_placeTold {h w : AH} (m0 : RM h w) (n : WN w) {b m : Nat} (hb : b < nB w) (h8 : m ≤ 8) (em : hI w 80 b = nI m) (s : Int32) : wp (f_X12_placeTold (some 49) (nI b) s h) (fun r h' => r = (match told_ w b s with | none => -1 | some k => nI (8 * b + k)) ∧ h' = h) := by
  have l := m0.1
  have m := m0
  have hn := n.n150
  have cb : (nI b).toNatClampNeg = b := nI_clamp (by omega)
  unfold f_X12_placeTold told_
  rw [em, nI_clamp (by omega)]
  simp (config := {decide := true, maxSteps := 5000000}) (disch := omega) only [↓reduceIte, ↓wp_some, ↓wp_none, wp_ite, ↓wp_cl, ↓wp_rz, ↓wp_nz, ↓wp_nzL, ↓wp_fI, ↓wp_fL, ↓wp_fR, ↓wp_pI, ↓wp_pL, ↓wp_pR, ↓wp_pZ, ↓wp_aI, ↓wp_aL, ↓wp_aR, ↓wp_bI, ↓wp_bL, ↓wp_bR, ↓wp_rO, ↓wp_cO, ↓wp_nO, ↓wp_iO, ↓wp_tbI, ↓wp_tbL, ↓wp_jn, q_okT, q_okA, q_gI, q_gL, q_gR, q_sI, q_sL, q_sR, q_SI, q_SL, q_SR, q_IL, q_IR, q_LI, q_LR, q_RI, q_RL, List.contains_cons, List.contains_nil, Nat.reduceBEq, Nat.reduceEqDiff, beq_self_eq_true, Bool.or_false, Bool.false_or, Bool.true_or, Bool.or_true, Bool.and_true, Bool.true_and, Bool.false_and, Bool.and_false, if_true, if_false, Bool.false_eq_true, true_and, and_true, false_and, and_false, and_self, not_true, not_false_iff, reduceCtorEq, forall_const, false_imp_iff, true_imp_iff, true_or, or_true, false_or, or_false, l.r49_2, l.r49_4, l.r49_5, l.r49_6, l.r49_7, l.r49_8, l.r49_9, l.r49_10, l.r49_12, l.r49_14, l.r49_15, l.r49_16, l.r49_18, l.r49_19, l.r49_20, l.r49_21, l.r49_22, l.r49_23, l.r49_24, l.r49_34, l.r49_35, l.r49_36, l.r49_37, l.r49_38, l.r49_39, l.r49_40, l.r49_41, l.r49_42, l.r49_43, l.r49_44, l.r49_46, l.r49_47, l.r49_48, l.r49_49, l.r49_50, l.r49_51, l.r49_59, l.r49_60, l.r49_61, l.r49_62, l.r49_63, l.r49_64, l.r49_66, l.r49_67, l.r49_68, l.r49_69, l.r49_70, l.r49_74, l.r49_80, l.r49_81, l.r49_82, l.r49_83, l.r49_85, l.r49_86, l.r49_87, l.r49_88, l.r49_89, l.s49, l.s50, l.s51, l.s52, l.s53, l.s54, l.s55, l.s56, l.s57, l.s58, l.s59, l.s60, l.s61, l.s62, l.s63, l.s64, l.s65, l.s66, l.s67, l.s68, l.s69, l.s70, l.s71, l.s72, l.s73, l.s74, l.s75, l.s76, l.s77, l.s78, l.s79, l.s80, l.s81, l.s82, l.s83, l.s84, l.s85, l.s86, l.s87, l.s88, l.s89, l.s90, l.s91, l.s92, l.s93, l.s94, l.s95, l.s96, l.s97, l.s98, l.s99, l.s100, l.s101, l.s102, l.s103, l.s104, l.s105, l.s106, m.i50, m.i51, m.i52, m.i53, m.i54, m.i55, m.i56, m.i57, m.i58, m.i59, m.i60, m.i61, m.i62, m.i63, m.i64, m.i65, m.i66, m.i67, m.i68, m.i69, m.i70, m.i71, m.i80, m.i81, m.i82, m.i83, m.i84, m.i86, m.i87, m.i88, m.i89, m.i90, m.i92, m.i93, m.i94, m.i97, m.i98, m.i102, m.i103, m.i104, m.i105, m.f1, m.f3, m.f11, m.f13, m.f17, m.f25, m.f33, m.f65, m.f75, m.f76, m.f84, cb, em, nI_neg, dle, decide_false, Bool.not_false]
  refine wp_d1 _ (fun j x => x = nI j - 1 ∧ lastOf (fun k => decide (hI w 81 (8 * b + k) = s)) some none _ = lastOf (fun k => decide (hI w 81 (8 * b + k) = s)) some none j) ⟨rfl, rfl⟩ (by omega) ?_ ?_
  · rintro G x ⟨rfl, e⟩
    have nn : nI 0 - 1 < 0 := by decide
    rw [e]
    simp (config := {decide := true, maxSteps := 5000000}) (disch := omega) only [↓reduceIte, ↓wp_some, ↓wp_none, wp_ite, ↓wp_cl, ↓wp_rz, ↓wp_nz, ↓wp_nzL, ↓wp_fI, ↓wp_fL, ↓wp_fR, ↓wp_pI, ↓wp_pL, ↓wp_pR, ↓wp_pZ, ↓wp_aI, ↓wp_aL, ↓wp_aR, ↓wp_bI, ↓wp_bL, ↓wp_bR, ↓wp_rO, ↓wp_cO, ↓wp_nO, ↓wp_iO, ↓wp_tbI, ↓wp_tbL, ↓wp_jn, q_okT, q_okA, q_gI, q_gL, q_gR, q_sI, q_sL, q_sR, q_SI, q_SL, q_SR, q_II, q_IL, q_IR, q_LI, q_LL, q_LR, q_RI, q_RL, q_RR, List.contains_cons, List.contains_nil, Nat.reduceBEq, Nat.reduceEqDiff, beq_self_eq_true, Bool.or_false, Bool.false_or, Bool.true_or, Bool.or_true, Bool.and_true, Bool.true_and, Bool.false_and, Bool.and_false, if_true, if_false, Bool.false_eq_true, true_and, and_true, false_and, and_false, and_self, not_true, not_false_iff, reduceCtorEq, forall_const, false_imp_iff, true_imp_iff, true_or, or_true, false_or, or_false, nn]
    rfl
  · rintro G j x hj ⟨rfl, e⟩ ih
    have em1 : nI (j + 1) - 1 = nI j := nI_pred j
    have nn : ¬ nI j < 0 := nI_pos (by omega)
    have ea : nI (8 * b) + nI j = nI (8 * b + j) := nI_add _ _
    have ca : (nI (8 * b + j)).toNatClampNeg = 8 * b + j := nI_clamp (by omega)
    have dq : nI j + -1 = nI j - 1 := am1 _
    have e2 : lastOf (fun k => decide (hI w 81 (8 * b + k) = s)) some none (j + 1) = if decide (hI w 81 (8 * b + j) = s) = true then some j else lastOf (fun k => decide (hI w 81 (8 * b + k) = s)) some none j := rfl
    rw [e2] at e
    by_cases c : hI w 81 (8 * b + j) = s
    · rw [if_pos (decide_eq_true c)] at e
      rw [e]
      simp (config := {decide := true, maxSteps := 5000000}) (disch := omega) only [↓reduceIte, ↓wp_some, ↓wp_none, wp_ite, ↓wp_cl, ↓wp_rz, ↓wp_nz, ↓wp_nzL, ↓wp_fI, ↓wp_fL, ↓wp_fR, ↓wp_pI, ↓wp_pL, ↓wp_pR, ↓wp_pZ, ↓wp_aI, ↓wp_aL, ↓wp_aR, ↓wp_bI, ↓wp_bL, ↓wp_bR, ↓wp_rO, ↓wp_cO, ↓wp_nO, ↓wp_iO, ↓wp_tbI, ↓wp_tbL, ↓wp_jn, q_okT, q_okA, q_gI, q_gL, q_gR, q_sI, q_sL, q_sR, q_SI, q_SL, q_SR, q_IL, q_IR, q_LI, q_LR, q_RI, q_RL, List.contains_cons, List.contains_nil, Nat.reduceBEq, Nat.reduceEqDiff, beq_self_eq_true, Bool.or_false, Bool.false_or, Bool.true_or, Bool.or_true, Bool.and_true, Bool.true_and, Bool.false_and, Bool.and_false, if_true, if_false, Bool.false_eq_true, true_and, and_true, false_and, and_false, and_self, not_true, not_false_iff, reduceCtorEq, forall_const, false_imp_iff, true_imp_iff, true_or, or_true, false_or, or_false, l.r49_2, l.r49_4, l.r49_5, l.r49_6, l.r49_7, l.r49_8, l.r49_9, l.r49_10, l.r49_12, l.r49_14, l.r49_15, l.r49_16, l.r49_18, l.r49_19, l.r49_20, l.r49_21, l.r49_22, l.r49_23, l.r49_24, l.r49_34, l.r49_35, l.r49_36, l.r49_37, l.r49_38, l.r49_39, l.r49_40, l.r49_41, l.r49_42, l.r49_43, l.r49_44, l.r49_46, l.r49_47, l.r49_48, l.r49_49, l.r49_50, l.r49_51, l.r49_59, l.r49_60, l.r49_61, l.r49_62, l.r49_63, l.r49_64, l.r49_66, l.r49_67, l.r49_68, l.r49_69, l.r49_70, l.r49_74, l.r49_80, l.r49_81, l.r49_82, l.r49_83, l.r49_85, l.r49_86, l.r49_87, l.r49_88, l.r49_89, l.s49, l.s50, l.s51, l.s52, l.s53, l.s54, l.s55, l.s56, l.s57, l.s58, l.s59, l.s60, l.s61, l.s62, l.s63, l.s64, l.s65, l.s66, l.s67, l.s68, l.s69, l.s70, l.s71, l.s72, l.s73, l.s74, l.s75, l.s76, l.s77, l.s78, l.s79, l.s80, l.s81, l.s82, l.s83, l.s84, l.s85, l.s86, l.s87, l.s88, l.s89, l.s90, l.s91, l.s92, l.s93, l.s94, l.s95, l.s96, l.s97, l.s98, l.s99, l.s100, l.s101, l.s102, l.s103, l.s104, l.s105, l.s106, m.i50, m.i51, m.i52, m.i53, m.i54, m.i55, m.i56, m.i57, m.i58, m.i59, m.i60, m.i61, m.i62, m.i63, m.i64, m.i65, m.i66, m.i67, m.i68, m.i69, m.i70, m.i71, m.i80, m.i81, m.i82, m.i83, m.i84, m.i86, m.i87, m.i88, m.i89, m.i90, m.i92, m.i93, m.i94, m.i97, m.i98, m.i102, m.i103, m.i104, m.i105, m.f1, m.f3, m.f11, m.f13, m.f17, m.f25, m.f33, m.f65, m.f75, m.f76, m.f84, em1, nn, nI_m8, ea, ca, c, nI_neg, dle, decide_false, Bool.not_false]
    · rw [if_neg (by simpa using c)] at e
      have ih := ih _ ⟨rfl, e⟩
      simp (config := {decide := true, maxSteps := 5000000}) (disch := omega) only [↓reduceIte, ↓wp_some, ↓wp_none, wp_ite, ↓wp_cl, ↓wp_rz, ↓wp_nz, ↓wp_nzL, ↓wp_fI, ↓wp_fL, ↓wp_fR, ↓wp_pI, ↓wp_pL, ↓wp_pR, ↓wp_pZ, ↓wp_aI, ↓wp_aL, ↓wp_aR, ↓wp_bI, ↓wp_bL, ↓wp_bR, ↓wp_rO, ↓wp_cO, ↓wp_nO, ↓wp_iO, ↓wp_tbI, ↓wp_tbL, ↓wp_jn, q_okT, q_okA, q_gI, q_gL, q_gR, q_sI, q_sL, q_sR, q_SI, q_SL, q_SR, q_IL, q_IR, q_LI, q_LR, q_RI, q_RL, List.contains_cons, List.contains_nil, Nat.reduceBEq, Nat.reduceEqDiff, beq_self_eq_true, Bool.or_false, Bool.false_or, Bool.true_or, Bool.or_true, Bool.and_true, Bool.true_and, Bool.false_and, Bool.and_false, if_true, if_false, Bool.false_eq_true, true_and, and_true, false_and, and_false, and_self, not_true, not_false_iff, reduceCtorEq, forall_const, false_imp_iff, true_imp_iff, true_or, or_true, false_or, or_false, l.r49_2, l.r49_4, l.r49_5, l.r49_6, l.r49_7, l.r49_8, l.r49_9, l.r49_10, l.r49_12, l.r49_14, l.r49_15, l.r49_16, l.r49_18, l.r49_19, l.r49_20, l.r49_21, l.r49_22, l.r49_23, l.r49_24, l.r49_34, l.r49_35, l.r49_36, l.r49_37, l.r49_38, l.r49_39, l.r49_40, l.r49_41, l.r49_42, l.r49_43, l.r49_44, l.r49_46, l.r49_47, l.r49_48, l.r49_49, l.r49_50, l.r49_51, l.r49_59, l.r49_60, l.r49_61, l.r49_62, l.r49_63, l.r49_64, l.r49_66, l.r49_67, l.r49_68, l.r49_69, l.r49_70, l.r49_74, l.r49_80, l.r49_81, l.r49_82, l.r49_83, l.r49_85, l.r49_86, l.r49_87, l.r49_88, l.r49_89, l.s49, l.s50, l.s51, l.s52, l.s53, l.s54, l.s55, l.s56, l.s57, l.s58, l.s59, l.s60, l.s61, l.s62, l.s63, l.s64, l.s65, l.s66, l.s67, l.s68, l.s69, l.s70, l.s71, l.s72, l.s73, l.s74, l.s75, l.s76, l.s77, l.s78, l.s79, l.s80, l.s81, l.s82, l.s83, l.s84, l.s85, l.s86, l.s87, l.s88, l.s89, l.s90, l.s91, l.s92, l.s93, l.s94, l.s95, l.s96, l.s97, l.s98, l.s99, l.s100, l.s101, l.s102, l.s103, l.s104, l.s105, l.s106, m.i50, m.i51, m.i52, m.i53, m.i54, m.i55, m.i56, m.i57, m.i58, m.i59, m.i60, m.i61, m.i62, m.i63, m.i64, m.i65, m.i66, m.i67, m.i68, m.i69, m.i70, m.i71, m.i80, m.i81, m.i82, m.i83, m.i84, m.i86, m.i87, m.i88, m.i89, m.i90, m.i92, m.i93, m.i94, m.i97, m.i98, m.i102, m.i103, m.i104, m.i105, m.f1, m.f3, m.f11, m.f13, m.f17, m.f25, m.f33, m.f65, m.f75, m.f76, m.f84, em1, nn, nI_m8, ea, ca, c, dq, nI_neg, dle, decide_false, Bool.not_false]
      exact ih
