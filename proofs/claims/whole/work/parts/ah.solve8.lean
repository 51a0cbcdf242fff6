/-! solve: the class's tellings at a letter -/
theorem t_X5_holds {h w : AH} {P : Nat → Prog} {ad : Nat → Nat} (R : RC h w P ad) {b m kx ky : Nat} (hb : b < nB w) (hk : hI w 51 b = 2 ∨ hI w 51 b = 5) (T : TelW w b m kx ky) (em : hI w 80 b = nI m) (e4 : told_ w b 4 = some kx) (e5 : told_ w b 5 = some ky) {k f : Nat} (hkm : k < m) (hf6 : f < 6) (ef : hI w 82 (8 * b + k) = nI f) : wp (f_X5_holds (some (ad b + 4)) (nI k) h) (fun r h' => r = (if holdsC w b kx ky (hI h (ad b + 10)) k = true then 1 else 0) ∧ h' = h) := by
  obtain ⟨-, s5, ⟨r3, r4, r5, r6, r7, r12⟩, s8⟩ := R.B.rr hb hk
  obtain ⟨o8, o9, o10, o11, rows⟩ := R.kt hb hk T em e4 e5
  obtain ⟨q5, q6, q7, q8, q9⟩ := rows k hkm
  have h8 := T.1
  have t5 := s8 5 (by omega) (by omega)
  have t6 := s8 6 (by omega) (by omega)
  have t7 := s8 7 (by omega) (by omega)
  have t8 := s8 8 (by omega) (by omega)
  have cx : (nI k).toNatClampNeg = k := nI_clamp (by omega)
  obtain ⟨t1, -, -, t4, -⟩ := tel_one (T.2.1 k hkm)
  rw [ef] at q6
  have dg := t_X5_digitOf R hb hk (x := f) hf6
  have co := t_X5_coordinate R hb hk T em e4 e5 hkm
  have cf : (nI f).toNatClampNeg = f := nI_clamp (by omega)
  have sorts : hI w 81 (8 * b + k) = 0 ∨ hI w 81 (8 * b + k) = 1 ∨ hI w 81 (8 * b + k) = 2 ∨ hI w 81 (8 * b + k) = 3 ∨ hI w 81 (8 * b + k) = 4 ∨ hI w 81 (8 * b + k) = 5 := by grind
  unfold f_X5_holds holdsC
  by_cases c2 : hI w 81 (8 * b + k) ≤ 2
  · obtain ⟨t, ht, et⟩ := t4 c2
    have q7 := q7 c2
    rw [et] at q7
    have dg2 := t_X5_digitOf R hb hk (x := t) ht
    have ct : (nI t).toNatClampNeg = t := nI_clamp (by omega)
    have c4 : hI w 81 (8 * b + k) < 4 := by grind
    rw [if_pos c4]
    unfold hold_ dD
    rw [ef, et, cf, ct]
    have : hI w 81 (8 * b + k) = 0 ∨ hI w 81 (8 * b + k) = 1 ∨ hI w 81 (8 * b + k) = 2 := by grind
    rcases this with e | e | e
    all_goals
      rw [e] at q5 ⊢
      simp (config := {decide := true, maxSteps := 5000000}) (disch := omega) only [↓reduceIte, ↓wp_some, ↓wp_none, wp_ite, ↓wp_cl, ↓wp_rz, ↓wp_nz, ↓wp_nzL, ↓wp_fI, ↓wp_fL, ↓wp_fR, ↓wp_pI, ↓wp_pL, ↓wp_pR, ↓wp_pZ, ↓wp_aI, ↓wp_aL, ↓wp_aR, ↓wp_bI, ↓wp_bL, ↓wp_bR, ↓wp_rO, ↓wp_cO, ↓wp_nO, ↓wp_iO, ↓wp_tbI, ↓wp_tbL, ↓wp_jn, q_okT, q_okA, q_gI, q_gL, q_gR, q_sI, q_sL, q_sR, q_SI, q_SL, q_SR, q_IL, q_IR, q_LI, q_LR, q_RI, q_RL, List.contains_cons, List.contains_nil, Nat.reduceBEq, Nat.reduceEqDiff, beq_self_eq_true, Bool.or_false, Bool.false_or, Bool.true_or, Bool.or_true, Bool.and_true, Bool.true_and, Bool.false_and, Bool.and_false, if_true, if_false, Bool.false_eq_true, true_and, and_true, false_and, and_false, and_self, not_true, not_false_iff, reduceCtorEq, forall_const, false_imp_iff, true_imp_iff, true_or, or_true, false_or, or_false, s5, t5, t6, t7, t8, r3, r4, r5, r6, cx, q5, q6, q7, q8, wp_use dg, wp_use dg2, nI_neg, dle, decide_false, Bool.not_false, decide_eq_true_eq]
      grind
  · have : hI w 81 (8 * b + k) = 3 ∨ hI w 81 (8 * b + k) = 4 ∨ hI w 81 (8 * b + k) = 5 := by grind
    rcases this with e | e | e
    · rw [if_pos (show hI w 81 (8 * b + k) < 4 by rw [e]; decide)]
      unfold hold_ dD
      rw [ef, cf]
      rw [e] at q5 ⊢
      simp (config := {decide := true, maxSteps := 5000000}) (disch := omega) only [↓reduceIte, ↓wp_some, ↓wp_none, wp_ite, ↓wp_cl, ↓wp_rz, ↓wp_nz, ↓wp_nzL, ↓wp_fI, ↓wp_fL, ↓wp_fR, ↓wp_pI, ↓wp_pL, ↓wp_pR, ↓wp_pZ, ↓wp_aI, ↓wp_aL, ↓wp_aR, ↓wp_bI, ↓wp_bL, ↓wp_bR, ↓wp_rO, ↓wp_cO, ↓wp_nO, ↓wp_iO, ↓wp_tbI, ↓wp_tbL, ↓wp_jn, q_okT, q_okA, q_gI, q_gL, q_gR, q_sI, q_sL, q_sR, q_SI, q_SL, q_SR, q_IL, q_IR, q_LI, q_LR, q_RI, q_RL, List.contains_cons, List.contains_nil, Nat.reduceBEq, Nat.reduceEqDiff, beq_self_eq_true, Bool.or_false, Bool.false_or, Bool.true_or, Bool.or_true, Bool.and_true, Bool.true_and, Bool.false_and, Bool.and_false, if_true, if_false, Bool.false_eq_true, true_and, and_true, false_and, and_false, and_self, not_true, not_false_iff, reduceCtorEq, forall_const, false_imp_iff, true_imp_iff, true_or, or_true, false_or, or_false, s5, t5, t6, t7, t8, r3, r4, r5, r6, cx, q5, q6, q8, wp_use dg, nI_neg, dle, decide_false, Bool.not_false, decide_eq_true_eq]
      grind
    · rw [if_neg (show ¬ hI w 81 (8 * b + k) < 4 by rw [e]; decide), if_pos e, in_9]
      rw [e] at q5
      by_cases z : k = kx
      · have z2 : nI k = nI kx := by rw [z]
        rw [decide_eq_true z]
        by_cases i : 0 ≤ coord_ w b (hI h (ad b + 10)) k ∧ coord_ w b (hI h (ad b + 10)) k < 10
        · simp (config := {decide := true, maxSteps := 5000000}) (disch := omega) only [↓reduceIte, ↓wp_some, ↓wp_none, wp_ite, ↓wp_cl, ↓wp_rz, ↓wp_nz, ↓wp_nzL, ↓wp_fI, ↓wp_fL, ↓wp_fR, ↓wp_pI, ↓wp_pL, ↓wp_pR, ↓wp_pZ, ↓wp_aI, ↓wp_aL, ↓wp_aR, ↓wp_bI, ↓wp_bL, ↓wp_bR, ↓wp_rO, ↓wp_cO, ↓wp_nO, ↓wp_iO, ↓wp_tbI, ↓wp_tbL, ↓wp_jn, q_okT, q_okA, q_gI, q_gL, q_gR, q_sI, q_sL, q_sR, q_SI, q_SL, q_SR, q_IL, q_IR, q_LI, q_LR, q_RI, q_RL, List.contains_cons, List.contains_nil, Nat.reduceBEq, Nat.reduceEqDiff, beq_self_eq_true, Bool.or_false, Bool.false_or, Bool.true_or, Bool.or_true, Bool.and_true, Bool.true_and, Bool.false_and, Bool.and_false, if_true, if_false, Bool.false_eq_true, true_and, and_true, false_and, and_false, and_self, not_true, not_false_iff, reduceCtorEq, forall_const, false_imp_iff, true_imp_iff, true_or, or_true, false_or, or_false, s5, t5, t6, t7, t8, r3, r4, r5, r6, cx, q5, q6, q8, wp_use dg, o10, eq_true z2, wp_use co, wp_use (t_X5_isWithin _ _ _), i, nI_neg, dle, decide_false, Bool.not_false, Bool.not_true, Bool.false_or]
        · simp (config := {decide := true, maxSteps := 5000000}) (disch := omega) only [↓reduceIte, ↓wp_some, ↓wp_none, wp_ite, ↓wp_cl, ↓wp_rz, ↓wp_nz, ↓wp_nzL, ↓wp_fI, ↓wp_fL, ↓wp_fR, ↓wp_pI, ↓wp_pL, ↓wp_pR, ↓wp_pZ, ↓wp_aI, ↓wp_aL, ↓wp_aR, ↓wp_bI, ↓wp_bL, ↓wp_bR, ↓wp_rO, ↓wp_cO, ↓wp_nO, ↓wp_iO, ↓wp_tbI, ↓wp_tbL, ↓wp_jn, q_okT, q_okA, q_gI, q_gL, q_gR, q_sI, q_sL, q_sR, q_SI, q_SL, q_SR, q_IL, q_IR, q_LI, q_LR, q_RI, q_RL, List.contains_cons, List.contains_nil, Nat.reduceBEq, Nat.reduceEqDiff, beq_self_eq_true, Bool.or_false, Bool.false_or, Bool.true_or, Bool.or_true, Bool.and_true, Bool.true_and, Bool.false_and, Bool.and_false, if_true, if_false, Bool.false_eq_true, true_and, and_true, false_and, and_false, and_self, not_true, not_false_iff, reduceCtorEq, forall_const, false_imp_iff, true_imp_iff, true_or, or_true, false_or, or_false, s5, t5, t6, t7, t8, r3, r4, r5, r6, cx, q5, q6, q8, wp_use dg, o10, eq_true z2, wp_use co, wp_use (t_X5_isWithin _ _ _), i, nI_neg, dle, decide_false, Bool.not_false, Bool.not_true, Bool.false_or]
      · have h4 := T.2.2.1
        have z2 : ¬ nI k = nI kx := by rw [nI_eq (by omega) (by omega)]; exact z
        rw [decide_eq_false z]
        simp (config := {decide := true, maxSteps := 5000000}) (disch := omega) only [↓reduceIte, ↓wp_some, ↓wp_none, wp_ite, ↓wp_cl, ↓wp_rz, ↓wp_nz, ↓wp_nzL, ↓wp_fI, ↓wp_fL, ↓wp_fR, ↓wp_pI, ↓wp_pL, ↓wp_pR, ↓wp_pZ, ↓wp_aI, ↓wp_aL, ↓wp_aR, ↓wp_bI, ↓wp_bL, ↓wp_bR, ↓wp_rO, ↓wp_cO, ↓wp_nO, ↓wp_iO, ↓wp_tbI, ↓wp_tbL, ↓wp_jn, q_okT, q_okA, q_gI, q_gL, q_gR, q_sI, q_sL, q_sR, q_SI, q_SL, q_SR, q_IL, q_IR, q_LI, q_LR, q_RI, q_RL, List.contains_cons, List.contains_nil, Nat.reduceBEq, Nat.reduceEqDiff, beq_self_eq_true, Bool.or_false, Bool.false_or, Bool.true_or, Bool.or_true, Bool.and_true, Bool.true_and, Bool.false_and, Bool.and_false, if_true, if_false, Bool.false_eq_true, true_and, and_true, false_and, and_false, and_self, not_true, not_false_iff, reduceCtorEq, forall_const, false_imp_iff, true_imp_iff, true_or, or_true, false_or, or_false, s5, t5, t6, t7, t8, r3, r4, r5, r6, cx, q5, q6, q8, wp_use dg, o10, z2, nI_neg, dle, decide_false, Bool.not_false, Bool.true_or]
    · rw [if_neg (show ¬ hI w 81 (8 * b + k) < 4 by rw [e]; decide), if_neg (show ¬ hI w 81 (8 * b + k) = 4 by rw [e]; decide), in_5]
      rw [e] at q5
      by_cases z : k = ky
      · have z2 : nI k = nI ky := by rw [z]
        rw [decide_eq_true z]
        by_cases i : 0 ≤ coord_ w b (hI h (ad b + 10)) k ∧ coord_ w b (hI h (ad b + 10)) k < 6
        · simp (config := {decide := true, maxSteps := 5000000}) (disch := omega) only [↓reduceIte, ↓wp_some, ↓wp_none, wp_ite, ↓wp_cl, ↓wp_rz, ↓wp_nz, ↓wp_nzL, ↓wp_fI, ↓wp_fL, ↓wp_fR, ↓wp_pI, ↓wp_pL, ↓wp_pR, ↓wp_pZ, ↓wp_aI, ↓wp_aL, ↓wp_aR, ↓wp_bI, ↓wp_bL, ↓wp_bR, ↓wp_rO, ↓wp_cO, ↓wp_nO, ↓wp_iO, ↓wp_tbI, ↓wp_tbL, ↓wp_jn, q_okT, q_okA, q_gI, q_gL, q_gR, q_sI, q_sL, q_sR, q_SI, q_SL, q_SR, q_IL, q_IR, q_LI, q_LR, q_RI, q_RL, List.contains_cons, List.contains_nil, Nat.reduceBEq, Nat.reduceEqDiff, beq_self_eq_true, Bool.or_false, Bool.false_or, Bool.true_or, Bool.or_true, Bool.and_true, Bool.true_and, Bool.false_and, Bool.and_false, if_true, if_false, Bool.false_eq_true, true_and, and_true, false_and, and_false, and_self, not_true, not_false_iff, reduceCtorEq, forall_const, false_imp_iff, true_imp_iff, true_or, or_true, false_or, or_false, s5, t5, t6, t7, t8, r3, r4, r5, r6, cx, q5, q6, q8, wp_use dg, o11, eq_true z2, wp_use co, wp_use (t_X5_isWithin _ _ _), i, nI_neg, dle, decide_false, Bool.not_false, Bool.not_true, Bool.false_or]
        · simp (config := {decide := true, maxSteps := 5000000}) (disch := omega) only [↓reduceIte, ↓wp_some, ↓wp_none, wp_ite, ↓wp_cl, ↓wp_rz, ↓wp_nz, ↓wp_nzL, ↓wp_fI, ↓wp_fL, ↓wp_fR, ↓wp_pI, ↓wp_pL, ↓wp_pR, ↓wp_pZ, ↓wp_aI, ↓wp_aL, ↓wp_aR, ↓wp_bI, ↓wp_bL, ↓wp_bR, ↓wp_rO, ↓wp_cO, ↓wp_nO, ↓wp_iO, ↓wp_tbI, ↓wp_tbL, ↓wp_jn, q_okT, q_okA, q_gI, q_gL, q_gR, q_sI, q_sL, q_sR, q_SI, q_SL, q_SR, q_IL, q_IR, q_LI, q_LR, q_RI, q_RL, List.contains_cons, List.contains_nil, Nat.reduceBEq, Nat.reduceEqDiff, beq_self_eq_true, Bool.or_false, Bool.false_or, Bool.true_or, Bool.or_true, Bool.and_true, Bool.true_and, Bool.false_and, Bool.and_false, if_true, if_false, Bool.false_eq_true, true_and, and_true, false_and, and_false, and_self, not_true, not_false_iff, reduceCtorEq, forall_const, false_imp_iff, true_imp_iff, true_or, or_true, false_or, or_false, s5, t5, t6, t7, t8, r3, r4, r5, r6, cx, q5, q6, q8, wp_use dg, o11, eq_true z2, wp_use co, wp_use (t_X5_isWithin _ _ _), i, nI_neg, dle, decide_false, Bool.not_false, Bool.not_true, Bool.false_or]
      · have h4 := T.2.2.2
        have z2 : ¬ nI k = nI ky := by rw [nI_eq (by omega) (by omega)]; exact z
        rw [decide_eq_false z]
        simp (config := {decide := true, maxSteps := 5000000}) (disch := omega) only [↓reduceIte, ↓wp_some, ↓wp_none, wp_ite, ↓wp_cl, ↓wp_rz, ↓wp_nz, ↓wp_nzL, ↓wp_fI, ↓wp_fL, ↓wp_fR, ↓wp_pI, ↓wp_pL, ↓wp_pR, ↓wp_pZ, ↓wp_aI, ↓wp_aL, ↓wp_aR, ↓wp_bI, ↓wp_bL, ↓wp_bR, ↓wp_rO, ↓wp_cO, ↓wp_nO, ↓wp_iO, ↓wp_tbI, ↓wp_tbL, ↓wp_jn, q_okT, q_okA, q_gI, q_gL, q_gR, q_sI, q_sL, q_sR, q_SI, q_SL, q_SR, q_IL, q_IR, q_LI, q_LR, q_RI, q_RL, List.contains_cons, List.contains_nil, Nat.reduceBEq, Nat.reduceEqDiff, beq_self_eq_true, Bool.or_false, Bool.false_or, Bool.true_or, Bool.or_true, Bool.and_true, Bool.true_and, Bool.false_and, Bool.and_false, if_true, if_false, Bool.false_eq_true, true_and, and_true, false_and, and_false, and_self, not_true, not_false_iff, reduceCtorEq, forall_const, false_imp_iff, true_imp_iff, true_or, or_true, false_or, or_false, s5, t5, t6, t7, t8, r3, r4, r5, r6, cx, q5, q6, q8, wp_use dg, o11, z2, nI_neg, dle, decide_false, Bool.not_false, Bool.true_or]
/-- the last letter of a telling -/
def lst_ (w : AH) (b k : Nat) : Int32 := if hI w 81 (8 * b + k) ≤ 2 then (if hI w 82 (8 * b + k) < hI w 83 (8 * b + k) then hI w 83 (8 * b + k) else hI w 82 (8 * b + k)) else hI w 82 (8 * b + k)
theorem lst_x {w : AH} {b m kx ky : Nat} (T : TelW w b m kx ky) {k : Nat} (hk : k < m) : ∃ l, l ≤ 6 ∧ lst_ w b k = nI l ∧ (l < 6 → inL w b m l = true ∧ (∃ f, f ≤ l ∧ hI w 82 (8 * b + k) = nI f) ∧ (hI w 81 (8 * b + k) ≤ 2 → ∃ t, t ≤ l ∧ hI w 83 (8 * b + k) = nI t)) ∧ (hI w 81 (8 * b + k) < 4 → l < 6) := by
  obtain ⟨t1, ⟨f, hf, ef⟩, t3, t4, -⟩ := tel_one (T.2.1 k hk)
  unfold lst_
  by_cases c2 : hI w 81 (8 * b + k) ≤ 2
  · obtain ⟨t, ht, et⟩ := t4 c2
    obtain ⟨f', hf', ef'⟩ := t3 (by grind)
    rw [if_pos c2]
    by_cases c : hI w 82 (8 * b + k) < hI w 83 (8 * b + k)
    · rw [if_pos c]
      have c' := c
      rw [ef', et, nI_ltI (by omega) (by omega)] at c'
      exact ⟨t, by omega, et, fun _ => ⟨inL_at2 hk c2 et, ⟨f', by omega, ef'⟩, fun _ => ⟨t, Nat.le_refl _, et⟩⟩, fun _ => ht⟩
    · rw [if_neg c]
      have c' := c
      rw [ef', et, nI_ltI (by omega) (by omega)] at c'
      exact ⟨f', by omega, ef', fun _ => ⟨inL_at hk ef', ⟨f', Nat.le_refl _, ef'⟩, fun _ => ⟨t, by omega, et⟩⟩, fun _ => hf'⟩
  · rw [if_neg c2]
    refine ⟨f, hf, ef, fun _ => ⟨inL_at hk ef, ⟨f, Nat.le_refl _, ef⟩, fun q => absurd q c2⟩, fun c4 => ?_⟩
    obtain ⟨f', hf', ef'⟩ := t3 (by grind)
    rw [ef, nI_eq (by omega) (by omega)] at ef'
    omega
theorem t_X5_allHoldAt {h w : AH} {P : Nat → Prog} {ad : Nat → Nat} (R : RC h w P ad) {b m kx ky : Nat} (hb : b < nB w) (hk : hI w 51 b = 2 ∨ hI w 51 b = 5) (T : TelW w b m kx ky) (em : hI w 80 b = nI m) (e4 : told_ w b 4 = some kx) (e5 : told_ w b 5 = some ky) {x : Nat} (hx : x < 6) : wp (f_X5_allHoldAt (some (ad b + 4)) (nI x) h) (fun r h' => r = (if anyN (fun k => decide (lst_ w b k = nI x) && !holdsC w b kx ky (hI h (ad b + 10)) k) m = true then 0 else 1) ∧ h' = h) := by
  obtain ⟨-, s5, ⟨r3, r4, r5, r6, r7, r12⟩, s8⟩ := R.B.rr hb hk
  obtain ⟨o8, o9, o10, o11, rows⟩ := R.kt hb hk T em e4 e5
  have h8 := T.1
  have t9 := s8 9 (by omega) (by omega)
  unfold f_X5_allHoldAt
  refine wp_g2 m (fun j y hh => y = nI j ∧ hh = h ∧ ∀ i, i < j → (decide (lst_ w b i = nI x) && !holdsC w b kx ky (hI h (ad b + 10)) i) = false) ⟨rfl, rfl, fun i hi => absurd hi (by omega)⟩ (by omega) ?_ ?_
  · rintro G y hh ⟨rfl, rfl, e0⟩
    rw [anyN_none e0]
    simp (config := {decide := true, maxSteps := 5000000}) (disch := omega) only [↓reduceIte, ↓wp_some, ↓wp_none, wp_ite, ↓wp_cl, ↓wp_rz, ↓wp_nz, ↓wp_nzL, ↓wp_fI, ↓wp_fL, ↓wp_fR, ↓wp_pI, ↓wp_pL, ↓wp_pR, ↓wp_pZ, ↓wp_aI, ↓wp_aL, ↓wp_aR, ↓wp_bI, ↓wp_bL, ↓wp_bR, ↓wp_rO, ↓wp_cO, ↓wp_nO, ↓wp_iO, ↓wp_tbI, ↓wp_tbL, ↓wp_jn, q_okT, q_okA, q_gI, q_gL, q_gR, q_sI, q_sL, q_sR, q_SI, q_SL, q_SR, q_IL, q_IR, q_LI, q_LR, q_RI, q_RL, List.contains_cons, List.contains_nil, Nat.reduceBEq, Nat.reduceEqDiff, beq_self_eq_true, Bool.or_false, Bool.false_or, Bool.true_or, Bool.or_true, Bool.and_true, Bool.true_and, Bool.false_and, Bool.and_false, if_true, if_false, Bool.false_eq_true, true_and, and_true, false_and, and_false, and_self, not_true, not_false_iff, reduceCtorEq, forall_const, false_imp_iff, true_imp_iff, true_or, or_true, false_or, or_false, s5, o8, Int32.le_refl]
  · rintro G j y hh hj ⟨rfl, rfl, e0⟩ ih
    have lj : ¬ nI m ≤ nI j := by rw [nI_leI (by omega) (by omega)]; omega
    have cj : (nI j).toNatClampNeg = j := nI_clamp (by omega)
    have ej : nI j + 1 = nI (j + 1) := nI_add _ 1
    have q9 : hI hh (ad b + 9) j = lst_ w b j := (rows j hj).2.2.2.2
    have go := fun q => ih (nI (j + 1)) hh ⟨rfl, rfl, fun i hi => below (p := fun i => decide (lst_ w b i = nI x) && !holdsC w b kx ky (hI hh (ad b + 10)) i) q e0 i hi⟩
    by_cases z : lst_ w b j = nI x
    · obtain ⟨l, hl, el, l6, -⟩ := lst_x T hj
      have lx : l = x := by rw [el, nI_eq (by omega) (by omega)] at z; exact z
      obtain ⟨-, ⟨f, hf, ef⟩, -⟩ := l6 (by omega)
      have ho := t_X5_holds R hb hk T em e4 e5 hj (f := f) (by omega) ef
      cases c : holdsC w b kx ky (hI hh (ad b + 10)) j with
      | true =>
        rw [c] at ho
        have go := go (by rw [c, Bool.not_true, Bool.and_false])
        simp (config := {decide := true, maxSteps := 5000000}) (disch := omega) only [↓reduceIte, ↓wp_some, ↓wp_none, wp_ite, ↓wp_cl, ↓wp_rz, ↓wp_nz, ↓wp_nzL, ↓wp_fI, ↓wp_fL, ↓wp_fR, ↓wp_pI, ↓wp_pL, ↓wp_pR, ↓wp_pZ, ↓wp_aI, ↓wp_aL, ↓wp_aR, ↓wp_bI, ↓wp_bL, ↓wp_bR, ↓wp_rO, ↓wp_cO, ↓wp_nO, ↓wp_iO, ↓wp_tbI, ↓wp_tbL, ↓wp_jn, q_okT, q_okA, q_gI, q_gL, q_gR, q_sI, q_sL, q_sR, q_SI, q_SL, q_SR, q_IL, q_IR, q_LI, q_LR, q_RI, q_RL, List.contains_cons, List.contains_nil, Nat.reduceBEq, Nat.reduceEqDiff, beq_self_eq_true, Bool.or_false, Bool.false_or, Bool.true_or, Bool.or_true, Bool.and_true, Bool.true_and, Bool.false_and, Bool.and_false, if_true, if_false, Bool.false_eq_true, true_and, and_true, false_and, and_false, and_self, not_true, not_false_iff, reduceCtorEq, forall_const, false_imp_iff, true_imp_iff, true_or, or_true, false_or, or_false, s5, o8, t9, r7, lj, cj, q9, eq_true z, wp_use ho, ej, nI_neg, dle, decide_false, Bool.not_false]
        exact go
      | false =>
        rw [c] at ho
        rw [anyN_at hj (by rw [c, decide_eq_true z]; rfl)]
        simp (config := {decide := true, maxSteps := 5000000}) (disch := omega) only [↓reduceIte, ↓wp_some, ↓wp_none, wp_ite, ↓wp_cl, ↓wp_rz, ↓wp_nz, ↓wp_nzL, ↓wp_fI, ↓wp_fL, ↓wp_fR, ↓wp_pI, ↓wp_pL, ↓wp_pR, ↓wp_pZ, ↓wp_aI, ↓wp_aL, ↓wp_aR, ↓wp_bI, ↓wp_bL, ↓wp_bR, ↓wp_rO, ↓wp_cO, ↓wp_nO, ↓wp_iO, ↓wp_tbI, ↓wp_tbL, ↓wp_jn, q_okT, q_okA, q_gI, q_gL, q_gR, q_sI, q_sL, q_sR, q_SI, q_SL, q_SR, q_IL, q_IR, q_LI, q_LR, q_RI, q_RL, List.contains_cons, List.contains_nil, Nat.reduceBEq, Nat.reduceEqDiff, beq_self_eq_true, Bool.or_false, Bool.false_or, Bool.true_or, Bool.or_true, Bool.and_true, Bool.true_and, Bool.false_and, Bool.and_false, if_true, if_false, Bool.false_eq_true, true_and, and_true, false_and, and_false, and_self, not_true, not_false_iff, reduceCtorEq, forall_const, false_imp_iff, true_imp_iff, true_or, or_true, false_or, or_false, s5, o8, t9, r7, lj, cj, q9, eq_true z, wp_use ho, nI_neg, dle, decide_false, Bool.not_false]
    · have go := go (by rw [decide_eq_false z]; rfl)
      simp (config := {decide := true, maxSteps := 5000000}) (disch := omega) only [↓reduceIte, ↓wp_some, ↓wp_none, wp_ite, ↓wp_cl, ↓wp_rz, ↓wp_nz, ↓wp_nzL, ↓wp_fI, ↓wp_fL, ↓wp_fR, ↓wp_pI, ↓wp_pL, ↓wp_pR, ↓wp_pZ, ↓wp_aI, ↓wp_aL, ↓wp_aR, ↓wp_bI, ↓wp_bL, ↓wp_bR, ↓wp_rO, ↓wp_cO, ↓wp_nO, ↓wp_iO, ↓wp_tbI, ↓wp_tbL, ↓wp_jn, q_okT, q_okA, q_gI, q_gL, q_gR, q_sI, q_sL, q_sR, q_SI, q_SL, q_SR, q_IL, q_IR, q_LI, q_LR, q_RI, q_RL, List.contains_cons, List.contains_nil, Nat.reduceBEq, Nat.reduceEqDiff, beq_self_eq_true, Bool.or_false, Bool.false_or, Bool.true_or, Bool.or_true, Bool.and_true, Bool.true_and, Bool.false_and, Bool.and_false, if_true, if_false, Bool.false_eq_true, true_and, and_true, false_and, and_false, and_self, not_true, not_false_iff, reduceCtorEq, forall_const, false_imp_iff, true_imp_iff, true_or, or_true, false_or, or_false, s5, o8, t9, r7, lj, cj, q9, z, ej, nI_neg, dle, decide_false, Bool.not_false]
      exact go
