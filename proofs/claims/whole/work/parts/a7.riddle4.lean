theorem t_elA {h w : AH} {P : Nat → Prog} {ad : Nat → Nat} (R : RC h w P ad) (n : WN w) (H : WH w) {s : Nat} (hs : s < 6) (hr : hI w 103 s ≤ -2) {z y : Nat} (ez : hI w 104 s = nI z) (hz : z ≤ 60) (hy : y < z) (d : Int64) : wp (f_X7_elementOr (some (36 + 2 * s)) (nI y).toInt64 d h) (fun r h' => r = hL w 105 (60 * s + y) ∧ h' = h) := by
  have E := t_X7_elementOr R n H hs (nI y) (k := 0) (by omega) (Or.inl rfl) d
  rw [show (nI 0).toInt64 = 0 by decide, Int64.add_zero, ez, nI_clamp (by omega), nI_clamp (by omega), if_pos ⟨hr, nI_pos' (by omega), by omega⟩] at E
  exact E
set_option maxHeartbeats 6000000 in
theorem t_X5_takeFive {h w : AH} {P : Nat → Prog} {ad : Nat → Nat} (R : RC h w P ad) (n : WN w) (H : WH w) (D : WD w) {s : Nat} (hs : s < 6) (hd : hI w 103 s = -1 ∨ hI w 103 s = -2) {b : Nat} (hb : b < nB w) (hk : hI w 51 b = 2 ∨ hI w 51 b = 5) {q : Nat} (hq : q < 8) (e : hI w 80 b = nI q) (i : Int32) (cc : q = 0 ∨ ∃ i0, i0 < 60 ∧ i = nI i0) : wp (f_X5_takeFive (some (ad b + 4)) (some (36 + 2 * s)) (i.toInt64 + (5 : Int64) * (nI q).toInt64) h) (fun r h' => (fiveOk w s i q = true → r = 1 ∧ RC h' (tel1 w b q (fiveE w s i q 0) (fiveE w s i q 1) (b8 (fiveE w s i q 2)) (fiveE w s i q 3)) P ad ∧ SM h h') ∧ (fiveOk w s i q = false → r = 0 ∧ h' = h)) := by
  have l := R.l
  have h107 := ad_ge R.B.1 (show b ≤ nB w by omega)
  obtain ⟨-, e2, e3, e4⟩ := shelf_l l hs
  obtain ⟨x, ex, ec⟩ : ∃ x : Int32, i.toInt64 + (5 : Int64) * (nI q).toInt64 = x.toInt64 ∧ ((q = 0 ∧ x = i) ∨ ∃ i0, i0 < 60 ∧ i = nI i0 ∧ x = nI (i0 + 5 * q)) := by
    rcases cc with rfl | ⟨i0, h0, rfl⟩
    · exact ⟨i, by rw [show (5 : Int64) * (nI 0).toInt64 = 0 by decide, Int64.add_zero], Or.inl ⟨rfl, rfl⟩⟩
    · exact ⟨nI (i0 + 5 * q), i64_5c i0 q h0 (by omega), Or.inr ⟨i0, h0, rfl, rfl⟩⟩
  rw [ex]
  unfold f_X5_takeFive
  have hp := t_X7_hasPlaces R hs x 5
  by_cases g : hI w 103 s = -2 ∧ 0 ≤ i ∧ i.toNatClampNeg + 5 * q + 5 ≤ (hI w 104 s).toNatClampNeg
  · obtain ⟨g1, g2, g3⟩ := g
    have hr : hI w 103 s ≤ -2 := by rw [g1]; decide
    obtain ⟨-, z, hz, ez⟩ := row_sz n H hs hr
    have cz : (nI z).toNatClampNeg = z := nI_clamp (by omega)
    rw [ez, cz] at g3
    have ei := nI_self g2
    have exx : x = nI (i.toNatClampNeg + 5 * q) := by
      rcases ec with ⟨rfl, rfl⟩ | ⟨i1, h1, rfl, rfl⟩
      · rw [Nat.mul_zero, Nat.add_zero]; exact ei
      · rw [nI_clamp (by omega)]
    have fo : fiveOk w s i q = (decide (hL w 105 (60 * s + (i.toNatClampNeg + 5 * q + 4)) = 0) && telOk (fiveE w s i q 0) (fiveE w s i q 1) (fiveE w s i q 2) (fiveE w s i q 3)) := by
      unfold fiveOk
      rw [ez, cz]
      congr 1
      exact decide_eq_decide.mpr ⟨fun y => y.2.2.2, fun y => ⟨g1, g2, g3, y⟩⟩
    unfold fiveE at fo ⊢
    generalize i.toNatClampNeg = c at *
    subst exx
    have y1 : hI w 103 s ≤ -2 ∧ 0 ≤ nI (c + 5 * q) ∧ (0 : Int32) ≤ 5 ∧ nI (c + 5 * q) ≤ hI w 104 s - 5 := by
      refine ⟨hr, nI_pos' (by omega), by decide, ?_⟩
      rw [ez, show (5 : Int32) = nI 5 from rfl, nI_sub (by omega), nI_leI (by omega) (by omega)]; omega
    have E0 := t_elA R n H hs hr ez hz (y := c + 5 * q) (by omega) (-1)
    have E1 := t_elA R n H hs hr ez hz (y := c + 5 * q + 1) (by omega) (-1)
    have E2 := t_elA R n H hs hr ez hz (y := c + 5 * q + 2) (by omega) (-1)
    have E3 := t_elA R n H hs hr ez hz (y := c + 5 * q + 3) (by omega) (-1)
    have E4 := t_elA R n H hs hr ez hz (y := c + 5 * q + 4) (by omega) (-1)
    have p1 : (nI (c + 5 * q)).toInt64 + 1 = (nI (c + 5 * q + 1)).toInt64 := i64_pj (c + 5 * q) (by omega) 1 (by omega)
    have p2 : (nI (c + 5 * q)).toInt64 + 2 = (nI (c + 5 * q + 2)).toInt64 := i64_pj (c + 5 * q) (by omega) 2 (by omega)
    have p3 : (nI (c + 5 * q)).toInt64 + 3 = (nI (c + 5 * q + 3)).toInt64 := i64_pj (c + 5 * q) (by omega) 3 (by omega)
    have p4 : (nI (c + 5 * q)).toInt64 + 4 = (nI (c + 5 * q + 4)).toInt64 := i64_pj (c + 5 * q) (by omega) 4 (by omega)
    rw [Nat.add_zero] at fo ⊢
    generalize hL w 105 (60 * s + (c + 5 * q)) = V0 at *
    generalize hL w 105 (60 * s + (c + 5 * q + 1)) = V1 at *
    generalize hL w 105 (60 * s + (c + 5 * q + 2)) = V2 at *
    generalize hL w 105 (60 * s + (c + 5 * q + 3)) = V3 at *
    generalize hL w 105 (60 * s + (c + 5 * q + 4)) = V4 at *
    rw [fo]
    by_cases c4 : V4 = 0
    · by_cases ok : telOk V0.toInt32 V1.toInt32 V2.toInt32 V3.toInt32 = true
      · have ft : (decide (V4 = 0) && telOk V0.toInt32 V1.toInt32 V2.toInt32 V3.toInt32) = true := by rw [decide_eq_true c4, ok]; rfl
        have b8t := (tel_b8 ok).2.2.2
        have okd := of_decide_eq_true ok
        obtain ⟨rr7, s5, ⟨r3, r4, r5, r6, r7, r12⟩, so⟩ := R.B.rr hb hk
        obtain ⟨o8, o9, o10, o11, -⟩ := R.dd b hb hk
        have o8 : hI h (ad b + 4) 8 = nI q := o8.trans e
        have so5 := so 5 (by omega) (by omega)
        have so6 := so 6 (by omega) (by omega)
        have so7 := so 7 (by omega) (by omega)
        have so8 := so 8 (by omega) (by omega)
        have so9 := so 9 (by omega) (by omega)
        have cq : (nI q).toNatClampNeg = q := nI_clamp (by omega)
        have eq1 : nI q + 1 = nI (q + 1) := nI_add q 1
        have fin : ∀ lst L1 L2 ex ey, lst = (if V0.toInt32 ≤ 2 then (if V1.toInt32 < V2.toInt32 then V2.toInt32 else V1.toInt32) else V1.toInt32) → L2 = ((letters_ w b ||| (if V1.toInt32 = 6 then 0 else bitOf V1.toInt32)) ||| (if V0.toInt32 ≤ 2 then bitOf V2.toInt32 else 0)) → ex = (if V0.toInt32 = 4 then nI q else oI (told_ w b 4)) → ey = (if V0.toInt32 = 5 then nI q else oI (told_ w b 5)) → RC (telC h (ad b) q V0.toInt32 V1.toInt32 V2.toInt32 V3.toInt32 lst L1 L2 ex ey) (tel1 w b q V0.toInt32 V1.toInt32 (b8 V2.toInt32) V3.toInt32) P ad ∧ SM h (telC h (ad b) q V0.toInt32 V1.toInt32 V2.toInt32 V3.toInt32 lst L1 L2 ex ey) := fun lst L1 L2 ex ey a1 a2 a3 a4 => ⟨R.tel5 D hb hk hq e b8t a1 a2 a3 a4, ((((((((((SM.refl h).wI _ _ _ (by omega)).wI _ _ _ (by omega)).wI _ _ _ (by omega)).wI _ _ _ (by omega)).wI _ _ _ (by omega)).wI _ _ _ (by omega)).wI _ _ _ (by omega)).wI _ _ _ (by omega)).wI _ _ _ (by omega)).wI _ _ _ (by omega)⟩
        unfold telC at fin
        by_cases s2 : V0.toInt32 ≤ 2
        · have n6 : ¬ V1.toInt32 = 6 := by
            have := okd.2
            rw [if_pos (by grind)] at this
            grind
          have n4 : ¬ V0.toInt32 = 4 := by grind
          have n5 : ¬ V0.toInt32 = 5 := by grind
          simp (config := {decide := true, maxSteps := 5000000}) (disch := omega) only [↓reduceIte, ↓wp_some, ↓wp_none, wp_ite, ↓wp_cl, ↓wp_rz, ↓wp_nz, ↓wp_nzL, ↓wp_fI, ↓wp_fL, ↓wp_fR, ↓wp_pI, ↓wp_pL, ↓wp_pR, ↓wp_pZ, ↓wp_aI, ↓wp_aL, ↓wp_aR, ↓wp_bI, ↓wp_bL, ↓wp_bR, ↓wp_rO, ↓wp_cO, ↓wp_nO, ↓wp_iO, ↓wp_tbI, ↓wp_tbL, ↓wp_jn, q_okT, q_okA, q_gI, q_gL, q_gR, q_sI, q_sL, q_sR, q_SI, q_SL, q_SR, q_IL, q_IR, q_LI, q_LR, q_RI, q_RL, List.contains_cons, List.contains_nil, Nat.reduceBEq, Nat.reduceEqDiff, beq_self_eq_true, Bool.or_false, Bool.false_or, Bool.true_or, Bool.or_true, Bool.and_true, Bool.true_and, Bool.false_and, Bool.and_false, if_true, if_false, Bool.false_eq_true, true_and, and_true, false_and, and_false, and_self, not_true, not_false_iff, reduceCtorEq, forall_const, false_imp_iff, true_imp_iff, true_or, or_true, false_or, or_false, wp_use hp, y1, e2, wp_use E0, wp_use E1, wp_use E2, wp_use E3, wp_use E4, p1, p2, p3, p4, lg_cmp_eq, c4, wp_use (t_X5_isTelling _ _ _ _ _), ok, s5, r3, r4, r5, r6, r7, so5, so6, so7, so8, so9, o8, o9, o10, o11, cq, eq1, s2, n4, n5, n6, q_ne, q_at, q_atne, nI_neg, dle, decide_false, Bool.not_false, decide_true]
          exact fin _ _ _ _ _ (by rw [if_pos s2]) (by rw [if_pos s2, if_neg n6] <;> rfl) (by rw [if_neg n4]) (by rw [if_neg n5])
        · by_cases n6 : V1.toInt32 = 6
          · by_cases n4 : V0.toInt32 = 4
            · have n5 : ¬ V0.toInt32 = 5 := by grind
              simp (config := {decide := true, maxSteps := 5000000}) (disch := omega) only [↓reduceIte, ↓wp_some, ↓wp_none, wp_ite, ↓wp_cl, ↓wp_rz, ↓wp_nz, ↓wp_nzL, ↓wp_fI, ↓wp_fL, ↓wp_fR, ↓wp_pI, ↓wp_pL, ↓wp_pR, ↓wp_pZ, ↓wp_aI, ↓wp_aL, ↓wp_aR, ↓wp_bI, ↓wp_bL, ↓wp_bR, ↓wp_rO, ↓wp_cO, ↓wp_nO, ↓wp_iO, ↓wp_tbI, ↓wp_tbL, ↓wp_jn, q_okT, q_okA, q_gI, q_gL, q_gR, q_sI, q_sL, q_sR, q_SI, q_SL, q_SR, q_IL, q_IR, q_LI, q_LR, q_RI, q_RL, List.contains_cons, List.contains_nil, Nat.reduceBEq, Nat.reduceEqDiff, beq_self_eq_true, Bool.or_false, Bool.false_or, Bool.true_or, Bool.or_true, Bool.and_true, Bool.true_and, Bool.false_and, Bool.and_false, if_true, if_false, Bool.false_eq_true, true_and, and_true, false_and, and_false, and_self, not_true, not_false_iff, reduceCtorEq, forall_const, false_imp_iff, true_imp_iff, true_or, or_true, false_or, or_false, wp_use hp, y1, e2, wp_use E0, wp_use E1, wp_use E2, wp_use E3, wp_use E4, p1, p2, p3, p4, lg_cmp_eq, c4, wp_use (t_X5_isTelling _ _ _ _ _), ok, s5, r3, r4, r5, r6, r7, so5, so6, so7, so8, so9, o8, o9, o10, o11, cq, eq1, s2, eq_true n4, n5, eq_true n6, q_ne, q_at, q_atne, nI_neg, dle, decide_false, Bool.not_false, decide_true]
              exact fin _ _ _ _ _ (by rw [if_neg s2]) (by rw [if_neg s2, if_pos n6]) (by rw [if_pos n4]) (by rw [if_neg n5])
            · by_cases n5 : V0.toInt32 = 5
              · simp (config := {decide := true, maxSteps := 5000000}) (disch := omega) only [↓reduceIte, ↓wp_some, ↓wp_none, wp_ite, ↓wp_cl, ↓wp_rz, ↓wp_nz, ↓wp_nzL, ↓wp_fI, ↓wp_fL, ↓wp_fR, ↓wp_pI, ↓wp_pL, ↓wp_pR, ↓wp_pZ, ↓wp_aI, ↓wp_aL, ↓wp_aR, ↓wp_bI, ↓wp_bL, ↓wp_bR, ↓wp_rO, ↓wp_cO, ↓wp_nO, ↓wp_iO, ↓wp_tbI, ↓wp_tbL, ↓wp_jn, q_okT, q_okA, q_gI, q_gL, q_gR, q_sI, q_sL, q_sR, q_SI, q_SL, q_SR, q_IL, q_IR, q_LI, q_LR, q_RI, q_RL, List.contains_cons, List.contains_nil, Nat.reduceBEq, Nat.reduceEqDiff, beq_self_eq_true, Bool.or_false, Bool.false_or, Bool.true_or, Bool.or_true, Bool.and_true, Bool.true_and, Bool.false_and, Bool.and_false, if_true, if_false, Bool.false_eq_true, true_and, and_true, false_and, and_false, and_self, not_true, not_false_iff, reduceCtorEq, forall_const, false_imp_iff, true_imp_iff, true_or, or_true, false_or, or_false, wp_use hp, y1, e2, wp_use E0, wp_use E1, wp_use E2, wp_use E3, wp_use E4, p1, p2, p3, p4, lg_cmp_eq, c4, wp_use (t_X5_isTelling _ _ _ _ _), ok, s5, r3, r4, r5, r6, r7, so5, so6, so7, so8, so9, o8, o9, o10, o11, cq, eq1, s2, n4, eq_true n5, eq_true n6, q_ne, q_at, q_atne, nI_neg, dle, decide_false, Bool.not_false, decide_true]
                exact fin _ _ _ _ _ (by rw [if_neg s2]) (by rw [if_neg s2, if_pos n6]) (by rw [if_neg n4]) (by rw [if_pos n5])
              · simp (config := {decide := true, maxSteps := 5000000}) (disch := omega) only [↓reduceIte, ↓wp_some, ↓wp_none, wp_ite, ↓wp_cl, ↓wp_rz, ↓wp_nz, ↓wp_nzL, ↓wp_fI, ↓wp_fL, ↓wp_fR, ↓wp_pI, ↓wp_pL, ↓wp_pR, ↓wp_pZ, ↓wp_aI, ↓wp_aL, ↓wp_aR, ↓wp_bI, ↓wp_bL, ↓wp_bR, ↓wp_rO, ↓wp_cO, ↓wp_nO, ↓wp_iO, ↓wp_tbI, ↓wp_tbL, ↓wp_jn, q_okT, q_okA, q_gI, q_gL, q_gR, q_sI, q_sL, q_sR, q_SI, q_SL, q_SR, q_IL, q_IR, q_LI, q_LR, q_RI, q_RL, List.contains_cons, List.contains_nil, Nat.reduceBEq, Nat.reduceEqDiff, beq_self_eq_true, Bool.or_false, Bool.false_or, Bool.true_or, Bool.or_true, Bool.and_true, Bool.true_and, Bool.false_and, Bool.and_false, if_true, if_false, Bool.false_eq_true, true_and, and_true, false_and, and_false, and_self, not_true, not_false_iff, reduceCtorEq, forall_const, false_imp_iff, true_imp_iff, true_or, or_true, false_or, or_false, wp_use hp, y1, e2, wp_use E0, wp_use E1, wp_use E2, wp_use E3, wp_use E4, p1, p2, p3, p4, lg_cmp_eq, c4, wp_use (t_X5_isTelling _ _ _ _ _), ok, s5, r3, r4, r5, r6, r7, so5, so6, so7, so8, so9, o8, o9, o10, o11, cq, eq1, s2, n4, n5, eq_true n6, q_ne, q_at, q_atne, nI_neg, dle, decide_false, Bool.not_false, decide_true]
                exact fin _ _ _ _ _ (by rw [if_neg s2]) (by rw [if_neg s2, if_pos n6]) (by rw [if_neg n4]) (by rw [if_neg n5])
          · by_cases n4 : V0.toInt32 = 4
            · have n5 : ¬ V0.toInt32 = 5 := by grind
              simp (config := {decide := true, maxSteps := 5000000}) (disch := omega) only [↓reduceIte, ↓wp_some, ↓wp_none, wp_ite, ↓wp_cl, ↓wp_rz, ↓wp_nz, ↓wp_nzL, ↓wp_fI, ↓wp_fL, ↓wp_fR, ↓wp_pI, ↓wp_pL, ↓wp_pR, ↓wp_pZ, ↓wp_aI, ↓wp_aL, ↓wp_aR, ↓wp_bI, ↓wp_bL, ↓wp_bR, ↓wp_rO, ↓wp_cO, ↓wp_nO, ↓wp_iO, ↓wp_tbI, ↓wp_tbL, ↓wp_jn, q_okT, q_okA, q_gI, q_gL, q_gR, q_sI, q_sL, q_sR, q_SI, q_SL, q_SR, q_IL, q_IR, q_LI, q_LR, q_RI, q_RL, List.contains_cons, List.contains_nil, Nat.reduceBEq, Nat.reduceEqDiff, beq_self_eq_true, Bool.or_false, Bool.false_or, Bool.true_or, Bool.or_true, Bool.and_true, Bool.true_and, Bool.false_and, Bool.and_false, if_true, if_false, Bool.false_eq_true, true_and, and_true, false_and, and_false, and_self, not_true, not_false_iff, reduceCtorEq, forall_const, false_imp_iff, true_imp_iff, true_or, or_true, false_or, or_false, wp_use hp, y1, e2, wp_use E0, wp_use E1, wp_use E2, wp_use E3, wp_use E4, p1, p2, p3, p4, lg_cmp_eq, c4, wp_use (t_X5_isTelling _ _ _ _ _), ok, s5, r3, r4, r5, r6, r7, so5, so6, so7, so8, so9, o8, o9, o10, o11, cq, eq1, s2, eq_true n4, n5, n6, q_ne, q_at, q_atne, nI_neg, dle, decide_false, Bool.not_false, decide_true]
              exact fin _ _ _ _ _ (by rw [if_neg s2]) (by rw [if_neg s2, if_neg n6] <;> rfl) (by rw [if_pos n4]) (by rw [if_neg n5])
            · by_cases n5 : V0.toInt32 = 5
              · simp (config := {decide := true, maxSteps := 5000000}) (disch := omega) only [↓reduceIte, ↓wp_some, ↓wp_none, wp_ite, ↓wp_cl, ↓wp_rz, ↓wp_nz, ↓wp_nzL, ↓wp_fI, ↓wp_fL, ↓wp_fR, ↓wp_pI, ↓wp_pL, ↓wp_pR, ↓wp_pZ, ↓wp_aI, ↓wp_aL, ↓wp_aR, ↓wp_bI, ↓wp_bL, ↓wp_bR, ↓wp_rO, ↓wp_cO, ↓wp_nO, ↓wp_iO, ↓wp_tbI, ↓wp_tbL, ↓wp_jn, q_okT, q_okA, q_gI, q_gL, q_gR, q_sI, q_sL, q_sR, q_SI, q_SL, q_SR, q_IL, q_IR, q_LI, q_LR, q_RI, q_RL, List.contains_cons, List.contains_nil, Nat.reduceBEq, Nat.reduceEqDiff, beq_self_eq_true, Bool.or_false, Bool.false_or, Bool.true_or, Bool.or_true, Bool.and_true, Bool.true_and, Bool.false_and, Bool.and_false, if_true, if_false, Bool.false_eq_true, true_and, and_true, false_and, and_false, and_self, not_true, not_false_iff, reduceCtorEq, forall_const, false_imp_iff, true_imp_iff, true_or, or_true, false_or, or_false, wp_use hp, y1, e2, wp_use E0, wp_use E1, wp_use E2, wp_use E3, wp_use E4, p1, p2, p3, p4, lg_cmp_eq, c4, wp_use (t_X5_isTelling _ _ _ _ _), ok, s5, r3, r4, r5, r6, r7, so5, so6, so7, so8, so9, o8, o9, o10, o11, cq, eq1, s2, n4, eq_true n5, n6, q_ne, q_at, q_atne, nI_neg, dle, decide_false, Bool.not_false, decide_true]
                exact fin _ _ _ _ _ (by rw [if_neg s2]) (by rw [if_neg s2, if_neg n6] <;> rfl) (by rw [if_neg n4]) (by rw [if_pos n5])
              · simp (config := {decide := true, maxSteps := 5000000}) (disch := omega) only [↓reduceIte, ↓wp_some, ↓wp_none, wp_ite, ↓wp_cl, ↓wp_rz, ↓wp_nz, ↓wp_nzL, ↓wp_fI, ↓wp_fL, ↓wp_fR, ↓wp_pI, ↓wp_pL, ↓wp_pR, ↓wp_pZ, ↓wp_aI, ↓wp_aL, ↓wp_aR, ↓wp_bI, ↓wp_bL, ↓wp_bR, ↓wp_rO, ↓wp_cO, ↓wp_nO, ↓wp_iO, ↓wp_tbI, ↓wp_tbL, ↓wp_jn, q_okT, q_okA, q_gI, q_gL, q_gR, q_sI, q_sL, q_sR, q_SI, q_SL, q_SR, q_IL, q_IR, q_LI, q_LR, q_RI, q_RL, List.contains_cons, List.contains_nil, Nat.reduceBEq, Nat.reduceEqDiff, beq_self_eq_true, Bool.or_false, Bool.false_or, Bool.true_or, Bool.or_true, Bool.and_true, Bool.true_and, Bool.false_and, Bool.and_false, if_true, if_false, Bool.false_eq_true, true_and, and_true, false_and, and_false, and_self, not_true, not_false_iff, reduceCtorEq, forall_const, false_imp_iff, true_imp_iff, true_or, or_true, false_or, or_false, wp_use hp, y1, e2, wp_use E0, wp_use E1, wp_use E2, wp_use E3, wp_use E4, p1, p2, p3, p4, lg_cmp_eq, c4, wp_use (t_X5_isTelling _ _ _ _ _), ok, s5, r3, r4, r5, r6, r7, so5, so6, so7, so8, so9, o8, o9, o10, o11, cq, eq1, s2, n4, n5, n6, q_ne, q_at, q_atne, nI_neg, dle, decide_false, Bool.not_false, decide_true]
                exact fin _ _ _ _ _ (by rw [if_neg s2]) (by rw [if_neg s2, if_neg n6] <;> rfl) (by rw [if_neg n4]) (by rw [if_neg n5])
      · have ok2 : telOk V0.toInt32 V1.toInt32 V2.toInt32 V3.toInt32 = false := by simpa using ok
        simp (config := {decide := true, maxSteps := 5000000}) (disch := omega) only [↓reduceIte, ↓wp_some, ↓wp_none, wp_ite, ↓wp_cl, ↓wp_rz, ↓wp_nz, ↓wp_nzL, ↓wp_fI, ↓wp_fL, ↓wp_fR, ↓wp_pI, ↓wp_pL, ↓wp_pR, ↓wp_pZ, ↓wp_aI, ↓wp_aL, ↓wp_aR, ↓wp_bI, ↓wp_bL, ↓wp_bR, ↓wp_rO, ↓wp_cO, ↓wp_nO, ↓wp_iO, ↓wp_tbI, ↓wp_tbL, ↓wp_jn, q_okT, q_okA, q_gI, q_gL, q_gR, q_sI, q_sL, q_sR, q_SI, q_SL, q_SR, q_IL, q_IR, q_LI, q_LR, q_RI, q_RL, List.contains_cons, List.contains_nil, Nat.reduceBEq, Nat.reduceEqDiff, beq_self_eq_true, Bool.or_false, Bool.false_or, Bool.true_or, Bool.or_true, Bool.and_true, Bool.true_and, Bool.false_and, Bool.and_false, if_true, if_false, Bool.false_eq_true, true_and, and_true, false_and, and_false, and_self, not_true, not_false_iff, reduceCtorEq, forall_const, false_imp_iff, true_imp_iff, true_or, or_true, false_or, or_false, wp_use hp, y1, e2, wp_use E0, wp_use E1, wp_use E2, wp_use E3, wp_use E4, p1, p2, p3, p4, lg_cmp_eq, c4, wp_use (t_X5_isTelling _ _ _ _ _), ok2, decide_true]
    · simp (config := {decide := true, maxSteps := 5000000}) (disch := omega) only [↓reduceIte, ↓wp_some, ↓wp_none, wp_ite, ↓wp_cl, ↓wp_rz, ↓wp_nz, ↓wp_nzL, ↓wp_fI, ↓wp_fL, ↓wp_fR, ↓wp_pI, ↓wp_pL, ↓wp_pR, ↓wp_pZ, ↓wp_aI, ↓wp_aL, ↓wp_aR, ↓wp_bI, ↓wp_bL, ↓wp_bR, ↓wp_rO, ↓wp_cO, ↓wp_nO, ↓wp_iO, ↓wp_tbI, ↓wp_tbL, ↓wp_jn, q_okT, q_okA, q_gI, q_gL, q_gR, q_sI, q_sL, q_sR, q_SI, q_SL, q_SR, q_IL, q_IR, q_LI, q_LR, q_RI, q_RL, List.contains_cons, List.contains_nil, Nat.reduceBEq, Nat.reduceEqDiff, beq_self_eq_true, Bool.or_false, Bool.false_or, Bool.true_or, Bool.or_true, Bool.and_true, Bool.true_and, Bool.false_and, Bool.and_false, if_true, if_false, Bool.false_eq_true, true_and, and_true, false_and, and_false, and_self, not_true, not_false_iff, reduceCtorEq, forall_const, false_imp_iff, true_imp_iff, true_or, or_true, false_or, or_false, wp_use hp, y1, e2, wp_use E0, wp_use E1, wp_use E2, wp_use E3, wp_use E4, p1, p2, p3, p4, lg_cmp_eq, c4, decide_false]
  · have fo : fiveOk w s i q = false := by
      unfold fiveOk
      rw [decide_eq_false (fun y => g ⟨y.1, y.2.1, y.2.2.1⟩), Bool.false_and]
    have y1 : ¬ (hI w 103 s ≤ -2 ∧ 0 ≤ x ∧ (0 : Int32) ≤ 5 ∧ x ≤ hI w 104 s - 5) := by
      rintro ⟨q1, q2, -, q4⟩
      have h2 : hI w 103 s = -2 := by
        rcases hd with q | q
        · rw [q] at q1; exact absurd q1 (by decide)
        · exact q
      obtain ⟨-, z, hz, ez⟩ := row_sz n H hs q1
      rw [ez] at q4
      have z6 : nI z ≤ 60 := by rw [show (60 : Int32) = nI 60 from rfl, nI_leI (by omega) (by omega)]; exact hz
      have z0 := nI_pos' (show z < 2 ^ 31 by omega)
      have q5 : x < nI 60 := by
        show x < 60
        grind
      obtain ⟨u, hu, rfl⟩ := nI_in0 q2 (by omega) q5
      have z5 : 5 ≤ z := by
        refine Nat.le_of_not_lt (fun c => ?_)
        have : nI z < 5 := by rw [show (5 : Int32) = nI 5 from rfl, nI_ltI (by omega) (by omega)]; exact c
        grind
      rw [show (5 : Int32) = nI 5 from rfl, nI_sub z5, nI_leI (by omega) (by omega)] at q4
      apply g
      rw [ez, nI_clamp (by omega)]
      rcases ec with ⟨rfl, rfl⟩ | ⟨i1, h1, rfl, e1⟩
      · exact ⟨h2, q2, by rw [nI_clamp (by omega)]; omega⟩
      · rw [nI_eq (by omega) (by omega)] at e1
        exact ⟨h2, nI_pos' (by omega), by rw [nI_clamp (by omega)]; omega⟩
    rw [fo]
    rw [if_neg y1] at hp
    simp (config := {decide := true, maxSteps := 5000000}) (disch := omega) only [↓reduceIte, ↓wp_some, ↓wp_none, wp_ite, ↓wp_cl, ↓wp_rz, ↓wp_nz, ↓wp_nzL, ↓wp_fI, ↓wp_fL, ↓wp_fR, ↓wp_pI, ↓wp_pL, ↓wp_pR, ↓wp_pZ, ↓wp_aI, ↓wp_aL, ↓wp_aR, ↓wp_bI, ↓wp_bL, ↓wp_bR, ↓wp_rO, ↓wp_cO, ↓wp_nO, ↓wp_iO, ↓wp_tbI, ↓wp_tbL, ↓wp_jn, q_okT, q_okA, q_gI, q_gL, q_gR, q_sI, q_sL, q_sR, q_SI, q_SL, q_SR, q_IL, q_IR, q_LI, q_LR, q_RI, q_RL, List.contains_cons, List.contains_nil, Nat.reduceBEq, Nat.reduceEqDiff, beq_self_eq_true, Bool.or_false, Bool.false_or, Bool.true_or, Bool.or_true, Bool.and_true, Bool.true_and, Bool.false_and, Bool.and_false, if_true, if_false, Bool.false_eq_true, true_and, and_true, false_and, and_false, and_self, not_true, not_false_iff, reduceCtorEq, forall_const, false_imp_iff, true_imp_iff, true_or, or_true, false_or, or_false, wp_use hp, e2]
