/-! A WALK: the reference's search -/
theorem t_X12_hoursFor (h : AH) (a b : Int32) : wp (f_X12_hoursFor a b h) (fun r h' => r = (far_ a b + 1) / 2 ∧ h' = h) := by
  unfold f_X12_hoursFor
  simp (config := {decide := true, maxSteps := 5000000}) (disch := omega) only [↓reduceIte, ↓wp_some, ↓wp_none, wp_ite, ↓wp_cl, ↓wp_rz, ↓wp_nz, ↓wp_nzL, ↓wp_fI, ↓wp_fL, ↓wp_fR, ↓wp_pI, ↓wp_pL, ↓wp_pR, ↓wp_pZ, ↓wp_aI, ↓wp_aL, ↓wp_aR, ↓wp_bI, ↓wp_bL, ↓wp_bR, ↓wp_rO, ↓wp_cO, ↓wp_nO, ↓wp_iO, ↓wp_tbI, ↓wp_tbL, ↓wp_jn, q_okT, q_okA, q_gI, q_gL, q_gR, q_sI, q_sL, q_sR, q_SI, q_SL, q_SR, q_II, q_IL, q_IR, q_LI, q_LL, q_LR, q_RI, q_RL, q_RR, List.contains_cons, List.contains_nil, Nat.reduceBEq, Nat.reduceEqDiff, beq_self_eq_true, Bool.or_false, Bool.false_or, Bool.true_or, Bool.or_true, Bool.and_true, Bool.true_and, Bool.false_and, Bool.and_false, if_true, if_false, Bool.false_eq_true, true_and, and_true, false_and, and_false, and_self, not_true, not_false_iff, reduceCtorEq, forall_const, false_imp_iff, true_imp_iff, true_or, or_true, false_or, or_false, wp_use (t_X12_farOf _ _ _), nle2, ne_eq]
theorem wfactR {w : AH} (n : WN w) (W : WB w) (M : WM w) (X : WWo w) {i : Nat} (hi : i < nW w) (home s l : Nat) : ∃ b, b < nB w ∧ boxK (hI w 51 b) = true ∧ hI w 92 i = nI b ∧ liesNow_ w b = nI (tC (told_w w home s l) i) ∧ (tN (told_w w home s l) i = decide (hI w 51 b = 5)) ∧ hI w 93 i = nI (tV (told_w w home s l) i) ∧ hI w 94 i = nI (tH (told_w w home s l) i) := by
  have hn := n.n150
  obtain ⟨⟨b, b1, b2, b3⟩, ⟨x, x1, x2, x3⟩, ⟨y, y1, y2⟩⟩ := X i hi
  have cb : (nI b).toNatClampNeg = b := nI_clamp (by omega)
  refine ⟨b, b1, b3, b2, ?_, ?_, ?_, ?_⟩
  · show liesNow_ w b = nI (liesNow_ w (hI w 92 i).toNatClampNeg).toNatClampNeg
    rw [b2, cb]
    obtain ⟨z, z1, z2⟩ := cellN (liesNow_ok n W M b1 b3)
    rw [z2, nI_clamp (by omega)]
  · show decide (hI w 51 ((hI w 92 i).toNatClampNeg) = 5) = _
    rw [b2, cb]
  · show _ = nI (hI w 93 i).toNatClampNeg
    rw [x3, nI_clamp (by omega)]
  · show _ = nI (hI w 94 i).toNatClampNeg
    rw [y2, nI_clamp (by omega)]
theorem dayN {x : Nat} (hx : x < 24) : (6 ≤ nI x ∧ nI x ≤ 19) = (dayB x = true) := by
  have : ∀ x : Nat, x < 24 → ((6 ≤ nI x ∧ nI x ≤ 19) ↔ (dayB x = true)) := by decide +kernel
  exact propext (this x hx)
theorem dayB_in {x : Nat} : dayB x = true ↔ 6 ≤ x % 24 ∧ x % 24 ≤ 19 := by
  unfold dayB
  rw [Bool.and_eq_true_iff]
  exact ⟨fun ⟨a, b⟩ => ⟨Nat.le_of_ble_eq_true a, Nat.le_of_ble_eq_true b⟩, fun ⟨a, b⟩ => ⟨Nat.ble_eq_true_of_le a, Nat.ble_eq_true_of_le b⟩⟩
theorem t_X12_hourBehind {h w : AH} (m : RM h w) (n : WN w) (W : WB w) (M : WM w) (X : WWo w) {i : Nat} (hi : i < nW w) {home s l0 : Nat} (o : okT' (told_w w home s l0)) {c t : Nat} (hc : c < 60) (ht : t ≤ 250) : wp (f_X12_hourBehind (some 49) (nI c) (nI (s + t)) (nI i) h) (fun r h' => r = nI (s + doneN (told_w w home s l0) i c t) ∧ h' = h) := by
  have hw := n.w7
  have hn := n.n150
  have hs : s < 24 := o.2.2.1
  have l := m.1
  obtain ⟨b, b1, b3, b2, e, e5, e1, e2⟩ := wfactR n W M X hi home s l0
  have q := o.2.2.2.2 i hi
  have ci : (nI i).toNatClampNeg = i := nI_clamp (by omega)
  have cb : (nI b).toNatClampNeg = b := nI_clamp (by omega)
  have hb := far_hb c hc (tC (told_w w home s l0) i) q.1
  have h7 := hbN_le c hc (tC (told_w w home s l0) i) q.1
  have ln := t_X12_liesNow m n W b1 b3
  rw [e] at ln
  unfold f_X12_hourBehind doneN begN
  rw [show tS0 (told_w w home s l0) = s from rfl, e5]
  generalize tC (told_w w home s l0) i = C at hb h7 ln q ⊢
  generalize tH (told_w w home s l0) i = D at e2 q ⊢
  have a1 : nI (s + t) + nI (hbN c C) = nI (s + (t + hbN c C)) := by rw [nI_add]; congr 1; omega
  simp (config := {decide := true, maxSteps := 5000000}) (disch := omega) only [↓reduceIte, ↓wp_some, ↓wp_none, wp_ite, ↓wp_cl, ↓wp_rz, ↓wp_nz, ↓wp_nzL, ↓wp_fI, ↓wp_fL, ↓wp_fR, ↓wp_pI, ↓wp_pL, ↓wp_pR, ↓wp_pZ, ↓wp_aI, ↓wp_aL, ↓wp_aR, ↓wp_bI, ↓wp_bL, ↓wp_bR, ↓wp_rO, ↓wp_cO, ↓wp_nO, ↓wp_iO, ↓wp_tbI, ↓wp_tbL, ↓wp_jn, q_okT, q_okA, q_gI, q_gL, q_gR, q_sI, q_sL, q_sR, q_SI, q_SL, q_SR, q_IL, q_IR, q_LI, q_LR, q_RI, q_RL, List.contains_cons, List.contains_nil, Nat.reduceBEq, Nat.reduceEqDiff, beq_self_eq_true, Bool.or_false, Bool.false_or, Bool.true_or, Bool.or_true, Bool.and_true, Bool.true_and, Bool.false_and, Bool.and_false, if_true, if_false, Bool.false_eq_true, true_and, and_true, false_and, and_false, and_self, not_true, not_false_iff, reduceCtorEq, forall_const, false_imp_iff, true_imp_iff, true_or, or_true, false_or, or_false, l.r49_2, l.r49_4, l.r49_5, l.r49_6, l.r49_7, l.r49_8, l.r49_9, l.r49_10, l.r49_12, l.r49_14, l.r49_15, l.r49_16, l.r49_18, l.r49_19, l.r49_20, l.r49_21, l.r49_22, l.r49_23, l.r49_24, l.r49_34, l.r49_35, l.r49_36, l.r49_37, l.r49_38, l.r49_39, l.r49_40, l.r49_41, l.r49_42, l.r49_43, l.r49_44, l.r49_46, l.r49_47, l.r49_48, l.r49_49, l.r49_50, l.r49_51, l.r49_59, l.r49_60, l.r49_61, l.r49_62, l.r49_63, l.r49_64, l.r49_66, l.r49_67, l.r49_68, l.r49_69, l.r49_70, l.r49_74, l.r49_80, l.r49_81, l.r49_82, l.r49_83, l.r49_85, l.r49_86, l.r49_87, l.r49_88, l.r49_89, l.s49, l.s50, l.s51, l.s52, l.s53, l.s54, l.s55, l.s56, l.s57, l.s58, l.s59, l.s60, l.s61, l.s62, l.s63, l.s64, l.s65, l.s66, l.s67, l.s68, l.s69, l.s70, l.s71, l.s72, l.s73, l.s74, l.s75, l.s76, l.s77, l.s78, l.s79, l.s80, l.s81, l.s82, l.s83, l.s84, l.s85, l.s86, l.s87, l.s88, l.s89, l.s90, l.s91, l.s92, l.s93, l.s94, l.s95, l.s96, l.s97, l.s98, l.s99, l.s100, l.s101, l.s102, l.s103, l.s104, l.s105, l.s106, m.i50, m.i51, m.i52, m.i53, m.i54, m.i55, m.i56, m.i57, m.i58, m.i59, m.i60, m.i61, m.i62, m.i63, m.i64, m.i65, m.i66, m.i67, m.i68, m.i69, m.i70, m.i71, m.i80, m.i81, m.i82, m.i83, m.i84, m.i86, m.i87, m.i88, m.i89, m.i90, m.i92, m.i93, m.i94, m.i97, m.i98, m.i102, m.i103, m.i104, m.i105, m.f1, m.f3, m.f11, m.f13, m.f17, m.f25, m.f33, m.f65, m.f75, m.f76, m.f84, ci, b2, wp_use ln, wp_use (t_X12_hoursFor _ _ _), hb, a1, nI_neg, dle, decide_false, Bool.not_false]
  by_cases k5 : hI w 51 b = 5 ∧ dayB (s + (t + hbN c C)) = true
  · have dd := dayB_in.mp k5.2
    have r1 : s + (t + hbN c C + (20 - (s + (t + hbN c C)) % 24) + D) = s + (t + hbN c C) + (20 - (s + (t + hbN c C)) % 24) + D := by omega
    rw [if_pos ⟨decide_eq_true k5.1, k5.2⟩, r1]
    generalize hx : s + (t + hbN c C) = x at *
    refine wp_g2 (20 - x % 24) (fun j y hh => y = nI (x + j) ∧ hh = h) ⟨rfl, rfl⟩ (by omega) ?_ ?_
    · rintro G y hh ⟨rfl, rfl⟩
      have xm : (x + (20 - x % 24)) % 24 = 20 := by omega
      have m24 := mod24 (x + (20 - x % 24)) (by omega)
      rw [xm] at m24
      have n20 : ¬ (6 ≤ nI 20 ∧ nI 20 ≤ 19) := by decide
      have a2 : nI (x + (20 - x % 24)) + nI D = nI (x + (20 - x % 24) + D) := nI_add _ _
      simp (config := {decide := true, maxSteps := 5000000}) (disch := omega) only [↓reduceIte, ↓wp_some, ↓wp_none, wp_ite, ↓wp_cl, ↓wp_rz, ↓wp_nz, ↓wp_nzL, ↓wp_fI, ↓wp_fL, ↓wp_fR, ↓wp_pI, ↓wp_pL, ↓wp_pR, ↓wp_pZ, ↓wp_aI, ↓wp_aL, ↓wp_aR, ↓wp_bI, ↓wp_bL, ↓wp_bR, ↓wp_rO, ↓wp_cO, ↓wp_nO, ↓wp_iO, ↓wp_tbI, ↓wp_tbL, ↓wp_jn, q_okT, q_okA, q_gI, q_gL, q_gR, q_sI, q_sL, q_sR, q_SI, q_SL, q_SR, q_IL, q_IR, q_LI, q_LR, q_RI, q_RL, List.contains_cons, List.contains_nil, Nat.reduceBEq, Nat.reduceEqDiff, beq_self_eq_true, Bool.or_false, Bool.false_or, Bool.true_or, Bool.or_true, Bool.and_true, Bool.true_and, Bool.false_and, Bool.and_false, if_true, if_false, Bool.false_eq_true, true_and, and_true, false_and, and_false, and_self, not_true, not_false_iff, reduceCtorEq, forall_const, false_imp_iff, true_imp_iff, true_or, or_true, false_or, or_false, l.r49_2, l.r49_4, l.r49_5, l.r49_6, l.r49_7, l.r49_8, l.r49_9, l.r49_10, l.r49_12, l.r49_14, l.r49_15, l.r49_16, l.r49_18, l.r49_19, l.r49_20, l.r49_21, l.r49_22, l.r49_23, l.r49_24, l.r49_34, l.r49_35, l.r49_36, l.r49_37, l.r49_38, l.r49_39, l.r49_40, l.r49_41, l.r49_42, l.r49_43, l.r49_44, l.r49_46, l.r49_47, l.r49_48, l.r49_49, l.r49_50, l.r49_51, l.r49_59, l.r49_60, l.r49_61, l.r49_62, l.r49_63, l.r49_64, l.r49_66, l.r49_67, l.r49_68, l.r49_69, l.r49_70, l.r49_74, l.r49_80, l.r49_81, l.r49_82, l.r49_83, l.r49_85, l.r49_86, l.r49_87, l.r49_88, l.r49_89, l.s49, l.s50, l.s51, l.s52, l.s53, l.s54, l.s55, l.s56, l.s57, l.s58, l.s59, l.s60, l.s61, l.s62, l.s63, l.s64, l.s65, l.s66, l.s67, l.s68, l.s69, l.s70, l.s71, l.s72, l.s73, l.s74, l.s75, l.s76, l.s77, l.s78, l.s79, l.s80, l.s81, l.s82, l.s83, l.s84, l.s85, l.s86, l.s87, l.s88, l.s89, l.s90, l.s91, l.s92, l.s93, l.s94, l.s95, l.s96, l.s97, l.s98, l.s99, l.s100, l.s101, l.s102, l.s103, l.s104, l.s105, l.s106, m.i50, m.i51, m.i52, m.i53, m.i54, m.i55, m.i56, m.i57, m.i58, m.i59, m.i60, m.i61, m.i62, m.i63, m.i64, m.i65, m.i66, m.i67, m.i68, m.i69, m.i70, m.i71, m.i80, m.i81, m.i82, m.i83, m.i84, m.i86, m.i87, m.i88, m.i89, m.i90, m.i92, m.i93, m.i94, m.i97, m.i98, m.i102, m.i103, m.i104, m.i105, m.f1, m.f3, m.f11, m.f13, m.f17, m.f25, m.f33, m.f65, m.f75, m.f76, m.f84, cb, ci, k5.1, n24, ne_eq, m24, wp_use (t_X12_in _ _ _ _), n20, e2, a2, nI_neg, dle, decide_false, Bool.not_false]
    · rintro G j y hh hj ⟨rfl, rfl⟩ ih
      have xm : (x + j) % 24 = x % 24 + j := by omega
      have m24 := mod24 (x + j) (by omega)
      have dn := dayN (x := (x + j) % 24) (Nat.mod_lt _ (by decide))
      rw [dayB_mod] at dn
      have yes : 6 ≤ nI ((x + j) % 24) ∧ nI ((x + j) % 24) ≤ 19 := by rw [dn]; exact dayB_in.mpr (by omega)
      have ej : nI (x + j) + 1 = nI (x + (j + 1)) := nI_add _ 1
      have ih := ih (nI (x + (j + 1))) hh ⟨rfl, rfl⟩
      simp (config := {decide := true, maxSteps := 5000000}) (disch := omega) only [↓reduceIte, ↓wp_some, ↓wp_none, wp_ite, ↓wp_cl, ↓wp_rz, ↓wp_nz, ↓wp_nzL, ↓wp_fI, ↓wp_fL, ↓wp_fR, ↓wp_pI, ↓wp_pL, ↓wp_pR, ↓wp_pZ, ↓wp_aI, ↓wp_aL, ↓wp_aR, ↓wp_bI, ↓wp_bL, ↓wp_bR, ↓wp_rO, ↓wp_cO, ↓wp_nO, ↓wp_iO, ↓wp_tbI, ↓wp_tbL, ↓wp_jn, q_okT, q_okA, q_gI, q_gL, q_gR, q_sI, q_sL, q_sR, q_SI, q_SL, q_SR, q_IL, q_IR, q_LI, q_LR, q_RI, q_RL, List.contains_cons, List.contains_nil, Nat.reduceBEq, Nat.reduceEqDiff, beq_self_eq_true, Bool.or_false, Bool.false_or, Bool.true_or, Bool.or_true, Bool.and_true, Bool.true_and, Bool.false_and, Bool.and_false, if_true, if_false, Bool.false_eq_true, true_and, and_true, false_and, and_false, and_self, not_true, not_false_iff, reduceCtorEq, forall_const, false_imp_iff, true_imp_iff, true_or, or_true, false_or, or_false, l.r49_2, l.r49_4, l.r49_5, l.r49_6, l.r49_7, l.r49_8, l.r49_9, l.r49_10, l.r49_12, l.r49_14, l.r49_15, l.r49_16, l.r49_18, l.r49_19, l.r49_20, l.r49_21, l.r49_22, l.r49_23, l.r49_24, l.r49_34, l.r49_35, l.r49_36, l.r49_37, l.r49_38, l.r49_39, l.r49_40, l.r49_41, l.r49_42, l.r49_43, l.r49_44, l.r49_46, l.r49_47, l.r49_48, l.r49_49, l.r49_50, l.r49_51, l.r49_59, l.r49_60, l.r49_61, l.r49_62, l.r49_63, l.r49_64, l.r49_66, l.r49_67, l.r49_68, l.r49_69, l.r49_70, l.r49_74, l.r49_80, l.r49_81, l.r49_82, l.r49_83, l.r49_85, l.r49_86, l.r49_87, l.r49_88, l.r49_89, l.s49, l.s50, l.s51, l.s52, l.s53, l.s54, l.s55, l.s56, l.s57, l.s58, l.s59, l.s60, l.s61, l.s62, l.s63, l.s64, l.s65, l.s66, l.s67, l.s68, l.s69, l.s70, l.s71, l.s72, l.s73, l.s74, l.s75, l.s76, l.s77, l.s78, l.s79, l.s80, l.s81, l.s82, l.s83, l.s84, l.s85, l.s86, l.s87, l.s88, l.s89, l.s90, l.s91, l.s92, l.s93, l.s94, l.s95, l.s96, l.s97, l.s98, l.s99, l.s100, l.s101, l.s102, l.s103, l.s104, l.s105, l.s106, m.i50, m.i51, m.i52, m.i53, m.i54, m.i55, m.i56, m.i57, m.i58, m.i59, m.i60, m.i61, m.i62, m.i63, m.i64, m.i65, m.i66, m.i67, m.i68, m.i69, m.i70, m.i71, m.i80, m.i81, m.i82, m.i83, m.i84, m.i86, m.i87, m.i88, m.i89, m.i90, m.i92, m.i93, m.i94, m.i97, m.i98, m.i102, m.i103, m.i104, m.i105, m.f1, m.f3, m.f11, m.f13, m.f17, m.f25, m.f33, m.f65, m.f75, m.f76, m.f84, cb, ci, k5.1, n24, ne_eq, m24, wp_use (t_X12_in _ _ _ _), yes, ej, nI_neg, dle, decide_false, Bool.not_false]
      exact ih
  · rw [if_neg (fun y => k5 ⟨of_decide_eq_true y.1, y.2⟩)]
    have up : ∀ (F : (Int32 → AH → Option (Int32 × AH)) → Int32 → AH → Option (Int32 × AH)) (N : Nat) (x : Int32) (y : AH) (Q : Int32 → AH → Prop), wp (F (lp (fun _ _ => none) F N) x y) Q → wp (lp (fun _ _ => none) F (N + 1) x y) Q := fun _ _ _ _ _ h => h
    rw [lpN_eq, show (1000000 : Nat) = 999999 + 1 from rfl]
    refine up _ _ _ _ _ ?_
    have a2 : nI (s + (t + hbN c C)) + nI D = nI (s + (t + hbN c C + D)) := by rw [nI_add]; congr 1; omega
    by_cases k : hI w 51 b = 5
    · have m24 := mod24 (s + (t + hbN c C)) (by omega)
      have dn := dayN (x := (s + (t + hbN c C)) % 24) (Nat.mod_lt _ (by decide))
      rw [dayB_mod] at dn
      have no : ¬ (6 ≤ nI ((s + (t + hbN c C)) % 24) ∧ nI ((s + (t + hbN c C)) % 24) ≤ 19) := by rw [dn]; exact fun y => k5 ⟨k, y⟩
      simp (config := {decide := true, maxSteps := 5000000}) (disch := omega) only [↓reduceIte, ↓wp_some, ↓wp_none, wp_ite, ↓wp_cl, ↓wp_rz, ↓wp_nz, ↓wp_nzL, ↓wp_fI, ↓wp_fL, ↓wp_fR, ↓wp_pI, ↓wp_pL, ↓wp_pR, ↓wp_pZ, ↓wp_aI, ↓wp_aL, ↓wp_aR, ↓wp_bI, ↓wp_bL, ↓wp_bR, ↓wp_rO, ↓wp_cO, ↓wp_nO, ↓wp_iO, ↓wp_tbI, ↓wp_tbL, ↓wp_jn, q_okT, q_okA, q_gI, q_gL, q_gR, q_sI, q_sL, q_sR, q_SI, q_SL, q_SR, q_IL, q_IR, q_LI, q_LR, q_RI, q_RL, List.contains_cons, List.contains_nil, Nat.reduceBEq, Nat.reduceEqDiff, beq_self_eq_true, Bool.or_false, Bool.false_or, Bool.true_or, Bool.or_true, Bool.and_true, Bool.true_and, Bool.false_and, Bool.and_false, if_true, if_false, Bool.false_eq_true, true_and, and_true, false_and, and_false, and_self, not_true, not_false_iff, reduceCtorEq, forall_const, false_imp_iff, true_imp_iff, true_or, or_true, false_or, or_false, l.r49_2, l.r49_4, l.r49_5, l.r49_6, l.r49_7, l.r49_8, l.r49_9, l.r49_10, l.r49_12, l.r49_14, l.r49_15, l.r49_16, l.r49_18, l.r49_19, l.r49_20, l.r49_21, l.r49_22, l.r49_23, l.r49_24, l.r49_34, l.r49_35, l.r49_36, l.r49_37, l.r49_38, l.r49_39, l.r49_40, l.r49_41, l.r49_42, l.r49_43, l.r49_44, l.r49_46, l.r49_47, l.r49_48, l.r49_49, l.r49_50, l.r49_51, l.r49_59, l.r49_60, l.r49_61, l.r49_62, l.r49_63, l.r49_64, l.r49_66, l.r49_67, l.r49_68, l.r49_69, l.r49_70, l.r49_74, l.r49_80, l.r49_81, l.r49_82, l.r49_83, l.r49_85, l.r49_86, l.r49_87, l.r49_88, l.r49_89, l.s49, l.s50, l.s51, l.s52, l.s53, l.s54, l.s55, l.s56, l.s57, l.s58, l.s59, l.s60, l.s61, l.s62, l.s63, l.s64, l.s65, l.s66, l.s67, l.s68, l.s69, l.s70, l.s71, l.s72, l.s73, l.s74, l.s75, l.s76, l.s77, l.s78, l.s79, l.s80, l.s81, l.s82, l.s83, l.s84, l.s85, l.s86, l.s87, l.s88, l.s89, l.s90, l.s91, l.s92, l.s93, l.s94, l.s95, l.s96, l.s97, l.s98, l.s99, l.s100, l.s101, l.s102, l.s103, l.s104, l.s105, l.s106, m.i50, m.i51, m.i52, m.i53, m.i54, m.i55, m.i56, m.i57, m.i58, m.i59, m.i60, m.i61, m.i62, m.i63, m.i64, m.i65, m.i66, m.i67, m.i68, m.i69, m.i70, m.i71, m.i80, m.i81, m.i82, m.i83, m.i84, m.i86, m.i87, m.i88, m.i89, m.i90, m.i92, m.i93, m.i94, m.i97, m.i98, m.i102, m.i103, m.i104, m.i105, m.f1, m.f3, m.f11, m.f13, m.f17, m.f25, m.f33, m.f65, m.f75, m.f76, m.f84, cb, ci, k, n24, ne_eq, m24, wp_use (t_X12_in _ _ _ _), no, e2, a2, nI_neg, dle, decide_false, Bool.not_false]
    · simp (config := {decide := true, maxSteps := 5000000}) (disch := omega) only [↓reduceIte, ↓wp_some, ↓wp_none, wp_ite, ↓wp_cl, ↓wp_rz, ↓wp_nz, ↓wp_nzL, ↓wp_fI, ↓wp_fL, ↓wp_fR, ↓wp_pI, ↓wp_pL, ↓wp_pR, ↓wp_pZ, ↓wp_aI, ↓wp_aL, ↓wp_aR, ↓wp_bI, ↓wp_bL, ↓wp_bR, ↓wp_rO, ↓wp_cO, ↓wp_nO, ↓wp_iO, ↓wp_tbI, ↓wp_tbL, ↓wp_jn, q_okT, q_okA, q_gI, q_gL, q_gR, q_sI, q_sL, q_sR, q_SI, q_SL, q_SR, q_IL, q_IR, q_LI, q_LR, q_RI, q_RL, List.contains_cons, List.contains_nil, Nat.reduceBEq, Nat.reduceEqDiff, beq_self_eq_true, Bool.or_false, Bool.false_or, Bool.true_or, Bool.or_true, Bool.and_true, Bool.true_and, Bool.false_and, Bool.and_false, if_true, if_false, Bool.false_eq_true, true_and, and_true, false_and, and_false, and_self, not_true, not_false_iff, reduceCtorEq, forall_const, false_imp_iff, true_imp_iff, true_or, or_true, false_or, or_false, l.r49_2, l.r49_4, l.r49_5, l.r49_6, l.r49_7, l.r49_8, l.r49_9, l.r49_10, l.r49_12, l.r49_14, l.r49_15, l.r49_16, l.r49_18, l.r49_19, l.r49_20, l.r49_21, l.r49_22, l.r49_23, l.r49_24, l.r49_34, l.r49_35, l.r49_36, l.r49_37, l.r49_38, l.r49_39, l.r49_40, l.r49_41, l.r49_42, l.r49_43, l.r49_44, l.r49_46, l.r49_47, l.r49_48, l.r49_49, l.r49_50, l.r49_51, l.r49_59, l.r49_60, l.r49_61, l.r49_62, l.r49_63, l.r49_64, l.r49_66, l.r49_67, l.r49_68, l.r49_69, l.r49_70, l.r49_74, l.r49_80, l.r49_81, l.r49_82, l.r49_83, l.r49_85, l.r49_86, l.r49_87, l.r49_88, l.r49_89, l.s49, l.s50, l.s51, l.s52, l.s53, l.s54, l.s55, l.s56, l.s57, l.s58, l.s59, l.s60, l.s61, l.s62, l.s63, l.s64, l.s65, l.s66, l.s67, l.s68, l.s69, l.s70, l.s71, l.s72, l.s73, l.s74, l.s75, l.s76, l.s77, l.s78, l.s79, l.s80, l.s81, l.s82, l.s83, l.s84, l.s85, l.s86, l.s87, l.s88, l.s89, l.s90, l.s91, l.s92, l.s93, l.s94, l.s95, l.s96, l.s97, l.s98, l.s99, l.s100, l.s101, l.s102, l.s103, l.s104, l.s105, l.s106, m.i50, m.i51, m.i52, m.i53, m.i54, m.i55, m.i56, m.i57, m.i58, m.i59, m.i60, m.i61, m.i62, m.i63, m.i64, m.i65, m.i66, m.i67, m.i68, m.i69, m.i70, m.i71, m.i80, m.i81, m.i82, m.i83, m.i84, m.i86, m.i87, m.i88, m.i89, m.i90, m.i92, m.i93, m.i94, m.i97, m.i98, m.i102, m.i103, m.i104, m.i105, m.f1, m.f3, m.f11, m.f13, m.f17, m.f25, m.f33, m.f65, m.f75, m.f76, m.f84, cb, ci, k, e2, a2, nI_neg, dle, decide_false, Bool.not_false]
def StR (h0 hh : AH) (T : Told) (row : List Nat) (B : Bst) : Prop := Sv h0 hh ∧ hI hh 49 77 = nI (tHome T) ∧ hI hh 49 78 = nI (tS0 T) ∧ hI hh 49 79 = nI (tL T) ∧ (∀ j, j < row.length → hI hh 95 j = nI (row.getD j 0)) ∧ hI hh 49 71 = nI B.1 ∧ hI hh 49 73 = nI B.2.2.length ∧ (1 ≤ B.1 → hI hh 49 72 = nI B.2.1 ∧ ∀ j, j < B.2.2.length → hI hh 96 j = nI (B.2.2.getD j 0))
theorem StR.pre {h0 hh : AH} {T : Told} {row : List Nat} {i : Nat} {B : Bst} (S : StR h0 hh T (row ++ [i]) B) : StR h0 hh T row B := by
  obtain ⟨a, b, c, d, e, f⟩ := S
  refine ⟨a, b, c, d, fun j hj => ?_, f⟩
  rw [e j (by rw [List.length_append]; omega), getD_ap1 _ _ _ hj]
theorem StR.put {h0 hh : AH} {T : Told} {row : List Nat} {B : Bst} (S : StR h0 hh T row B) (i : Nat) : StR h0 (wI hh 95 row.length (nI i)) T (row ++ [i]) B := by
  obtain ⟨a, b, c, d, e, f, g⟩ := S
  refine ⟨a.wI 95 _ _ (by omega) rfl, b, c, d, fun j hj => ?_, f, g⟩
  rw [List.length_append, List.length_singleton] at hj
  rw [q_II]
  by_cases z : j = row.length
  · subst z; rw [if_pos ⟨rfl, rfl⟩, getD_la1]
  · rw [if_neg (fun y => z y.2), getD_ap1 _ _ _ (by omega)]; exact e j (by omega)
