/-! the call paper -/
theorem isFinder_of {w w1 : AH} (e : hI w1 49 = hI w 49) (e2 : hI w1 51 = hI w 51) (b : Int32) : isFinder_ w1 b = isFinder_ w b := by
  unfold isFinder_ isBody_ nB
  rw [e, e2]
theorem t_X7_isRowOf {h w : AH} {P : Nat → Prog} {ad : Nat → Nat} (R : RC h w P ad) {s : Nat} (hs : s < 6) (k : Int32) : wp (f_X7_isRowOf (some (36 + 2 * s)) k h) (fun r h' => r = (if hI w 103 s ≤ -2 ∧ -2 - hI w 103 s = k then 1 else 0) ∧ h' = h) := by
  have l := R.l
  obtain ⟨-, e2, -, -⟩ := shelf_l l hs
  have e1 := sh1 R hs
  unfold f_X7_isRowOf
  by_cases hr : hI w 103 s ≤ -2
  · have e3 := sh2 R hs hr
    by_cases c : -2 - hI w 103 s = k
    · simp only [↓reduceIte, ↓wp_some, ↓wp_none, wp_ite, ↓wp_cl, ↓wp_rz, ↓wp_nz, ↓wp_nzL, ↓wp_fI, ↓wp_fL, ↓wp_fR, ↓wp_pI, ↓wp_pL, ↓wp_pR, ↓wp_pZ, ↓wp_aI, ↓wp_aL, ↓wp_aR, ↓wp_bI, ↓wp_bL, ↓wp_bR, ↓wp_rO, ↓wp_cO, ↓wp_nO, ↓wp_iO, ↓wp_tbI, ↓wp_tbL, ↓wp_jn, q_okT, q_okA, q_gI, q_gL, q_gR, q_sI, q_sL, q_sR, q_SI, q_SL, q_SR, q_II, q_IL, q_IR, q_LI, q_LL, q_LR, q_RI, q_RL, q_RR, List.contains_cons, List.contains_nil, Nat.reduceBEq, Nat.reduceEqDiff, beq_self_eq_true, Bool.or_false, Bool.false_or, Bool.true_or, Bool.or_true, Bool.and_true, Bool.true_and, Bool.false_and, Bool.and_false, if_true, if_false, Bool.false_eq_true, true_and, and_true, false_and, and_false, and_self, not_true, not_false_iff, reduceCtorEq, forall_const, false_imp_iff, true_imp_iff, true_or, or_true, false_or, or_false, e2, e1, e3, hr, n1_0, c]
    · simp only [↓reduceIte, ↓wp_some, ↓wp_none, wp_ite, ↓wp_cl, ↓wp_rz, ↓wp_nz, ↓wp_nzL, ↓wp_fI, ↓wp_fL, ↓wp_fR, ↓wp_pI, ↓wp_pL, ↓wp_pR, ↓wp_pZ, ↓wp_aI, ↓wp_aL, ↓wp_aR, ↓wp_bI, ↓wp_bL, ↓wp_bR, ↓wp_rO, ↓wp_cO, ↓wp_nO, ↓wp_iO, ↓wp_tbI, ↓wp_tbL, ↓wp_jn, q_okT, q_okA, q_gI, q_gL, q_gR, q_sI, q_sL, q_sR, q_SI, q_SL, q_SR, q_II, q_IL, q_IR, q_LI, q_LL, q_LR, q_RI, q_RL, q_RR, List.contains_cons, List.contains_nil, Nat.reduceBEq, Nat.reduceEqDiff, beq_self_eq_true, Bool.or_false, Bool.false_or, Bool.true_or, Bool.or_true, Bool.and_true, Bool.true_and, Bool.false_and, Bool.and_false, if_true, if_false, Bool.false_eq_true, true_and, and_true, false_and, and_false, and_self, not_true, not_false_iff, reduceCtorEq, forall_const, false_imp_iff, true_imp_iff, true_or, or_true, false_or, or_false, e2, e1, e3, hr, n1_0, c]
  · simp only [↓reduceIte, ↓wp_some, ↓wp_none, wp_ite, ↓wp_cl, ↓wp_rz, ↓wp_nz, ↓wp_nzL, ↓wp_fI, ↓wp_fL, ↓wp_fR, ↓wp_pI, ↓wp_pL, ↓wp_pR, ↓wp_pZ, ↓wp_aI, ↓wp_aL, ↓wp_aR, ↓wp_bI, ↓wp_bL, ↓wp_bR, ↓wp_rO, ↓wp_cO, ↓wp_nO, ↓wp_iO, ↓wp_tbI, ↓wp_tbL, ↓wp_jn, q_okT, q_okA, q_gI, q_gL, q_gR, q_sI, q_sL, q_sR, q_SI, q_SL, q_SR, q_II, q_IL, q_IR, q_LI, q_LL, q_LR, q_RI, q_RL, q_RR, List.contains_cons, List.contains_nil, Nat.reduceBEq, Nat.reduceEqDiff, beq_self_eq_true, Bool.or_false, Bool.false_or, Bool.true_or, Bool.or_true, Bool.and_true, Bool.true_and, Bool.false_and, Bool.and_false, if_true, if_false, Bool.false_eq_true, true_and, and_true, false_and, and_false, and_self, not_true, not_false_iff, reduceCtorEq, forall_const, false_imp_iff, true_imp_iff, true_or, or_true, false_or, or_false, e2, e1, hr]
theorem i64_p (a b : Nat) (ha : a < 60) (hb : b < 100) : (nI a).toInt64 + (nI b).toInt64 = (nI (a + b)).toInt64 := by
  have e : ∀ a : Nat, a < 200 → (nI a).toInt64 = Int64.ofNat a := by decide +kernel
  rw [e a (by omega), e b (by omega), e (a + b) (by omega)]
  exact (Int64.ofNat_add a b).symm
theorem t_X7_elementOr {h w : AH} {P : Nat → Prog} {ad : Nat → Nat} (R : RC h w P ad) (n : WN w) (H : WH w) {s : Nat} (hs : s < 6) (i : Int32) {k : Nat} (hk : k < 100) (c : k = 0 ∨ ∃ i0, i0 < 60 ∧ i = nI i0) (d : Int64) : wp (f_X7_elementOr (some (36 + 2 * s)) (i.toInt64 + (nI k).toInt64) d h) (fun r h' => r = (if hI w 103 s ≤ -2 ∧ 0 ≤ i ∧ i.toNatClampNeg + k < (hI w 104 s).toNatClampNeg then hL w 105 (60 * s + (i.toNatClampNeg + k)) else d) ∧ h' = h) := by
  have l := R.l
  obtain ⟨-, e2, e3, e4⟩ := shelf_l l hs
  obtain ⟨x, ex, ec⟩ : ∃ x : Int32, i.toInt64 + (nI k).toInt64 = x.toInt64 ∧ ((k = 0 ∧ x = i) ∨ ∃ i0, i0 < 60 ∧ i = nI i0 ∧ x = nI (i0 + k)) := by
    rcases c with rfl | ⟨i0, h0, rfl⟩
    · exact ⟨i, by rw [show (nI 0).toInt64 = 0 by decide, Int64.add_zero], Or.inl ⟨rfl, rfl⟩⟩
    · exact ⟨nI (i0 + k), i64_p i0 k h0 hk, Or.inr ⟨i0, h0, rfl, rfl⟩⟩
  rw [ex]
  unfold f_X7_elementOr
  by_cases hr : hI w 103 s ≤ -2
  · obtain ⟨-, z, hz, ez⟩ := row_sz n H hs hr
    rw [ez]
    have cz : (nI z).toNatClampNeg = z := nI_clamp (by omega)
    rw [cz]
    by_cases g : 0 ≤ i ∧ i.toNatClampNeg + k < z
    · obtain ⟨y, hy, exy, ey⟩ : ∃ y : Nat, y < z ∧ x = nI y ∧ i.toNatClampNeg + k = y := by
        rcases ec with ⟨rfl, rfl⟩ | ⟨i0, h0, rfl, rfl⟩
        · exact ⟨x.toNatClampNeg, by omega, nI_self g.1, by omega⟩
        · rw [nI_clamp (by omega)] at g
          exact ⟨i0 + k, g.2, rfl, by rw [nI_clamp (by omega)]⟩
      subst exy
      rw [ey] at g ⊢
      have c1 : 0 ≤ nI y := nI_pos' (by omega)
      have c2 : nI y ≤ nI z - 1 := by
        obtain ⟨z', rfl⟩ : ∃ z', z = z' + 1 := ⟨z - 1, by omega⟩
        rw [nI_pred, nI_leI (by omega) (by omega)]; omega
      have sl := shL R hs hr (i := y) (by omega)
      have cy : (nI y).toNatClampNeg = y := nI_clamp (by omega)
      simp (config := {decide := true, maxSteps := 5000000}) (disch := omega) only [↓reduceIte, ↓wp_some, ↓wp_none, wp_ite, ↓wp_cl, ↓wp_rz, ↓wp_nz, ↓wp_nzL, ↓wp_fI, ↓wp_fL, ↓wp_fR, ↓wp_pI, ↓wp_pL, ↓wp_pR, ↓wp_pZ, ↓wp_aI, ↓wp_aL, ↓wp_aR, ↓wp_bI, ↓wp_bL, ↓wp_bR, ↓wp_rO, ↓wp_cO, ↓wp_nO, ↓wp_iO, ↓wp_tbI, ↓wp_tbL, ↓wp_jn, q_okT, q_okA, q_gI, q_gL, q_gR, q_sI, q_sL, q_sR, q_SI, q_SL, q_SR, q_II, q_IL, q_IR, q_LI, q_LL, q_LR, q_RI, q_RL, q_RR, List.contains_cons, List.contains_nil, Nat.reduceBEq, Nat.reduceEqDiff, beq_self_eq_true, Bool.or_false, Bool.false_or, Bool.true_or, Bool.or_true, Bool.and_true, Bool.true_and, Bool.false_and, Bool.and_false, if_true, if_false, Bool.false_eq_true, true_and, and_true, false_and, and_false, and_self, not_true, not_false_iff, reduceCtorEq, forall_const, false_imp_iff, true_imp_iff, true_or, or_true, false_or, or_false, wp_use (t_X7_hasPlaces R hs _ _), e2, e3, e4, hr, ez, c1, c2, g, i64_32, n1_0, sl, cy, hy, nI_neg, dle]
    · have c3 : ¬ (hI w 103 s ≤ -2 ∧ 0 ≤ x ∧ (0 : Int32) ≤ 1 ∧ x ≤ nI z - 1) := by
        rintro ⟨-, q1, -, q2⟩
        apply g
        have z0 : z ≠ 0 := fun e => by
          subst e
          have : nI 0 - 1 < 0 := by decide
          grind
        obtain ⟨z', rfl⟩ : ∃ z', z = z' + 1 := ⟨z - 1, by omega⟩
        rw [nI_pred] at q2
        have q4 : nI z' < nI (z' + 1) := by rw [nI_ltI (by omega) (by omega)]; omega
        have q3 : x < nI (z' + 1) := by grind
        obtain ⟨y, hy, rfl⟩ := nI_in0 q1 (by omega) q3
        rcases ec with ⟨rfl, e⟩ | ⟨i0, h0, rfl, e⟩
        · rw [← e]
          exact ⟨q1, by rw [nI_clamp (by omega)]; omega⟩
        · rw [nI_eq (by omega) (by omega)] at e
          exact ⟨nI_pos' (by omega), by rw [nI_clamp (by omega)]; omega⟩
      have g2 : ¬ (hI w 103 s ≤ -2 ∧ 0 ≤ i ∧ i.toNatClampNeg + k < z) := fun y => g y.2
      simp only [↓reduceIte, ↓wp_some, ↓wp_none, wp_ite, ↓wp_cl, ↓wp_rz, ↓wp_nz, ↓wp_nzL, ↓wp_fI, ↓wp_fL, ↓wp_fR, ↓wp_pI, ↓wp_pL, ↓wp_pR, ↓wp_pZ, ↓wp_aI, ↓wp_aL, ↓wp_aR, ↓wp_bI, ↓wp_bL, ↓wp_bR, ↓wp_rO, ↓wp_cO, ↓wp_nO, ↓wp_iO, ↓wp_tbI, ↓wp_tbL, ↓wp_jn, q_okT, q_okA, q_gI, q_gL, q_gR, q_sI, q_sL, q_sR, q_SI, q_SL, q_SR, q_II, q_IL, q_IR, q_LI, q_LL, q_LR, q_RI, q_RL, q_RR, List.contains_cons, List.contains_nil, Nat.reduceBEq, Nat.reduceEqDiff, beq_self_eq_true, Bool.or_false, Bool.false_or, Bool.true_or, Bool.or_true, Bool.and_true, Bool.true_and, Bool.false_and, Bool.and_false, if_true, if_false, Bool.false_eq_true, true_and, and_true, false_and, and_false, and_self, not_true, not_false_iff, reduceCtorEq, forall_const, false_imp_iff, true_imp_iff, true_or, or_true, false_or, or_false, wp_use (t_X7_hasPlaces R hs _ _), e2, ez, c3, g2]
  · simp only [↓reduceIte, ↓wp_some, ↓wp_none, wp_ite, ↓wp_cl, ↓wp_rz, ↓wp_nz, ↓wp_nzL, ↓wp_fI, ↓wp_fL, ↓wp_fR, ↓wp_pI, ↓wp_pL, ↓wp_pR, ↓wp_pZ, ↓wp_aI, ↓wp_aL, ↓wp_aR, ↓wp_bI, ↓wp_bL, ↓wp_bR, ↓wp_rO, ↓wp_cO, ↓wp_nO, ↓wp_iO, ↓wp_tbI, ↓wp_tbL, ↓wp_jn, q_okT, q_okA, q_gI, q_gL, q_gR, q_sI, q_sL, q_sR, q_SI, q_SL, q_SR, q_II, q_IL, q_IR, q_LI, q_LL, q_LR, q_RI, q_RL, q_RR, List.contains_cons, List.contains_nil, Nat.reduceBEq, Nat.reduceEqDiff, beq_self_eq_true, Bool.or_false, Bool.false_or, Bool.true_or, Bool.or_true, Bool.and_true, Bool.true_and, Bool.false_and, Bool.and_false, if_true, if_false, Bool.false_eq_true, true_and, and_true, false_and, and_false, and_self, not_true, not_false_iff, reduceCtorEq, forall_const, false_imp_iff, true_imp_iff, true_or, or_true, false_or, or_false, wp_use (t_X7_hasPlaces R hs _ _), e2, hr]
def s_paper (w : AH) (a c i k : Int32) : Int32 × AH := if isBox_ w a = true ∧ isShelf_ c = true ∧ 1 ≤ k ∧ k ≤ 40 then (if hI w 103 (c.toNatClampNeg) = -1 ∨ hI w 103 (c.toNatClampNeg) = -3 then (nI (runN (nameOk w c.toNatClampNeg i) k.toNatClampNeg), papd w a.toNatClampNeg c.toNatClampNeg i.toNatClampNeg (runN (nameOk w c.toNatClampNeg i) k.toNatClampNeg)) else (-12, w)) else (-1, w)
theorem WH.of {w w1 : AH} (H : WH w) (e : hI w1 49 = hI w 49) (e2 : hI w1 103 = hI w 103) (e3 : hI w1 104 = hI w 104) : WH w1 := by
  unfold WH nB at *
  rw [e, e2, e3]; exact H
theorem c_paper {h w : AH} {P : Nat → Prog} {ad : Nat → Nat} (R : RC h w P ad) (n : WN w) (H : WH w) (a c i k : Int32) : wp (f_X11_paper (some 0) a c i k h) (fun r h' => r = (s_paper w a c i k).1 ∧ RC h' (s_paper w a c i k).2 P ad ∧ SM h h') := by
  have l := R.l
  have hn := n.n150
  have sm := SM.refl h
  unfold f_X11_paper s_paper
  by_cases z : isBox_ w a = true
  · obtain ⟨b, hb, rfl, kb⟩ := isBox_ex n z
    by_cases y : isShelf_ c = true
    · obtain ⟨s, hs, rfl⟩ := isShelf_ex y
      obtain ⟨-, e2, e3, e4⟩ := shelf_l l hs
      have cb : (nI b).toNatClampNeg = b := nI_clamp (by omega)
      have cs : (nI s).toNatClampNeg = s := nI_clamp (by omega)
      by_cases k1 : k < 1
      · have k2 : ¬ 1 ≤ k := Int32.not_le.mpr k1
        simp (config := {decide := true, maxSteps := 5000000}) (disch := omega) only [↓reduceIte, ↓wp_some, ↓wp_none, wp_ite, ↓wp_cl, ↓wp_rz, ↓wp_nz, ↓wp_nzL, ↓wp_fI, ↓wp_fL, ↓wp_fR, ↓wp_pI, ↓wp_pL, ↓wp_pR, ↓wp_pZ, ↓wp_aI, ↓wp_aL, ↓wp_aR, ↓wp_bI, ↓wp_bL, ↓wp_bR, ↓wp_rO, ↓wp_cO, ↓wp_nO, ↓wp_iO, ↓wp_tbI, ↓wp_tbL, ↓wp_jn, q_okT, q_okA, q_gI, q_gL, q_gR, q_sI, q_sL, q_sR, q_SI, q_SL, q_SR, q_IL, q_IR, q_LI, q_LR, q_RI, q_RL, List.contains_cons, List.contains_nil, Nat.reduceBEq, Nat.reduceEqDiff, beq_self_eq_true, Bool.or_false, Bool.false_or, Bool.true_or, Bool.or_true, Bool.and_true, Bool.true_and, Bool.false_and, Bool.and_false, if_true, if_false, Bool.false_eq_true, true_and, and_true, false_and, and_false, and_self, not_true, not_false_iff, reduceCtorEq, forall_const, false_imp_iff, true_imp_iff, true_or, or_true, false_or, or_false, l.r0_0, l.r0_1, l.r0_2, l.r0_3, l.r0_4, l.r0_5, l.r1_1, l.r1_2, l.r1_4, l.r1_6, l.r1_7, l.r1_8, l.r8_0, l.r8_3, l.r8_4, l.r8_5, l.r8_6, l.r8_7, l.r8_8, l.r8_9, l.r9_1, l.r9_2, l.r9_3, l.r9_4, l.r9_9, l.r21_0, l.r21_1, l.r21_3, l.r21_4, l.r21_5, l.r21_6, l.r21_7, l.r21_8, l.r28_3, l.r28_4, l.r28_5, l.r28_6, l.r28_7, l.r28_9, l.r35_0, l.r35_1, l.r35_2, l.r35_3, l.r35_4, l.r35_5, l.r36_4, l.r38_4, l.r40_4, l.r42_4, l.r44_4, l.r46_4, l.s0, l.s1, l.s2, l.s3, l.s4, l.s5, l.s6, l.s7, l.s8, l.s9, l.s10, l.s11, l.s12, l.s13, l.s14, l.s15, l.s16, l.s17, l.s18, l.s19, l.s20, l.s21, l.s22, l.s23, l.s24, l.s25, l.s26, l.s27, l.s28, l.s29, l.s30, l.s31, l.s32, l.s33, l.s34, l.s35, l.s36, l.s37, l.s38, l.s39, l.s40, l.s41, l.s42, l.s43, l.s44, l.s45, l.s46, l.s47, l.s48, wp_use (t_X3_boxAt l n R.B _), wp_use (t_X11_shelfAt l _), z, y, k1, k2]
        exact ⟨R, sm⟩
      by_cases k3 : k ≤ 40
      · have k4 : 1 ≤ k := Int32.not_lt.mp k1
        obtain ⟨m, hm, rfl⟩ := nI_in0 (c := k) (n := 41) (by grind) (by omega) (show k < 41 by grind)
        have cm : (nI m).toNatClampNeg = m := nI_clamp (by omega)
        have loop : ∀ hd : hI w 103 s = -1 ∨ hI w 103 s = -3, ∀ (p : f_X7_elementOr = f_X7_elementOr), wp (lp (fun _ _ => none) (fun (L77 : Int32 → AH → Option (Int32 × AH)) (x11 : Int32) (h12 : AH) =>
              jn (fun (h13 : AH) =>
                fI h13 [1] (some (ad b)) 15 fun v14 =>
                some (v14, h13)) fun j146 =>
              if nI m ≤ x11 then
                j146 h12
              else
                rO h12 [7] (some (36 + 2 * s)) <| cl (f_X7_elementOr (some (36 + 2 * s)) (i.toInt64 + x11.toInt64) (-1 : Int64) h12) fun v16 h15 =>
                fR h15 [11] (some 0) 0 fun v17 =>
                rO h15 [3] v17 <| cl (f_X3_finderAt v17 v16.toInt32 h15) fun v19 h18 =>
                if v19 = none then
                  j146 h18
                else
                  fR h18 [1] (some (ad b)) 5 fun v20 =>
                  fI h18 [1] (some (ad b)) 15 fun v21 =>
                  bI h18 20 v20 v21 v16.toInt32 fun h22 =>
                  fI h22 [1] (some (ad b)) 15 fun v23 =>
                  pI h22 [1] (some (ad b)) 15 (v23 + (1 : Int32)) fun h24 =>
                  L77 (x11 + 1) h24) lpN (0 : Int32) (wI (wI h (ad b) 15 0) (ad b) 16 1)) (fun r h' => r = nI (runN (nameOk w s i) m) ∧ RC h' (papd w b s i.toNatClampNeg (runN (nameOk w s i) m)) P ad ∧ SM h h') := by
          intro hd _
          have h107 := ad_ge R.B.1 (show b ≤ nB w by omega)
          refine wp_g2 m (fun j x hh => x = nI j ∧ RC hh (papd w b s i.toNatClampNeg j) P ad ∧ SM h hh ∧ ∀ q, q < j → nameOk w s i q = true) ⟨rfl, R.pap0 hb kb, (sm.wI _ _ _ (by omega)).wI _ _ _ (by omega), fun q hq => absurd hq (by omega)⟩ (by omega) ?_ ?_
          · rintro G x hh ⟨rfl, R, sm, e0⟩
            have l := R.l
            rw [runN_all e0]
            have hb1 : b < nB (papd w b s i.toNatClampNeg m) := by unfold nB; rw [papd_I _ _ _ _ _ (by decide) (by decide)]; exact hb
            have kb1 : boxK (hI (papd w b s i.toNatClampNeg m) 51 b) = true := by rw [papd_I _ _ _ _ _ (by decide) (by decide)]; exact kb
            have e15 : hI hh (ad b) 15 = nI m := by rw [R.B.x15 hb1 kb1, papd_n, if_neg (by rw [nI_neg (by omega)]; exact id)]
            simp (config := {decide := true, maxSteps := 5000000}) (disch := omega) only [↓reduceIte, ↓wp_some, ↓wp_none, wp_ite, ↓wp_cl, ↓wp_rz, ↓wp_nz, ↓wp_nzL, ↓wp_fI, ↓wp_fL, ↓wp_fR, ↓wp_pI, ↓wp_pL, ↓wp_pR, ↓wp_pZ, ↓wp_aI, ↓wp_aL, ↓wp_aR, ↓wp_bI, ↓wp_bL, ↓wp_bR, ↓wp_rO, ↓wp_cO, ↓wp_nO, ↓wp_iO, ↓wp_tbI, ↓wp_tbL, ↓wp_jn, q_okT, q_okA, q_gI, q_gL, q_gR, q_sI, q_sL, q_sR, q_SI, q_SL, q_SR, q_II, q_IL, q_IR, q_LI, q_LL, q_LR, q_RI, q_RL, q_RR, List.contains_cons, List.contains_nil, Nat.reduceBEq, Nat.reduceEqDiff, beq_self_eq_true, Bool.or_false, Bool.false_or, Bool.true_or, Bool.or_true, Bool.and_true, Bool.true_and, Bool.false_and, Bool.and_false, if_true, if_false, Bool.false_eq_true, true_and, and_true, false_and, and_false, and_self, not_true, not_false_iff, reduceCtorEq, forall_const, false_imp_iff, true_imp_iff, true_or, or_true, false_or, or_false, l.r0_0, l.r0_1, l.r0_2, l.r0_3, l.r0_4, l.r0_5, l.r1_1, l.r1_2, l.r1_4, l.r1_6, l.r1_7, l.r1_8, l.r8_0, l.r8_3, l.r8_4, l.r8_5, l.r8_6, l.r8_7, l.r8_8, l.r8_9, l.r9_1, l.r9_2, l.r9_3, l.r9_4, l.r9_9, l.r21_0, l.r21_1, l.r21_3, l.r21_4, l.r21_5, l.r21_6, l.r21_7, l.r21_8, l.r28_3, l.r28_4, l.r28_5, l.r28_6, l.r28_7, l.r28_9, l.r35_0, l.r35_1, l.r35_2, l.r35_3, l.r35_4, l.r35_5, l.r36_4, l.r38_4, l.r40_4, l.r42_4, l.r44_4, l.r46_4, l.s0, l.s1, l.s2, l.s3, l.s4, l.s5, l.s6, l.s7, l.s8, l.s9, l.s10, l.s11, l.s12, l.s13, l.s14, l.s15, l.s16, l.s17, l.s18, l.s19, l.s20, l.s21, l.s22, l.s23, l.s24, l.s25, l.s26, l.s27, l.s28, l.s29, l.s30, l.s31, l.s32, l.s33, l.s34, l.s35, l.s36, l.s37, l.s38, l.s39, l.s40, l.s41, l.s42, l.s43, l.s44, l.s45, l.s46, l.s47, l.s48, n1_0, m1neg, ne_eq, nle2, n24, n10, nle, b10, b11, am1, n0m1, Int32.add_zero, Int32.zero_add, ite_true, ite_false, Bool.and_eq_true, nI_m4, nI_m5, nI_m8, nI_m10, nI_m12, nI_m24, nI_m31, nI_m40, nI_m60, nI_m81, nI_m161, nI_m170, nI_p2, nI_p3, nI_p4, nI_p5, nI_p6, nI_pred, nI_leI, nI_ltI, nI_eq, nI_clamp, nI_neg, nI_ge0, nI_neg1, nI_1, nI_add, nI_mul, dle, decide_true, decide_false, Bool.not_true, Bool.not_false, decide_eq_true_eq, R.B.b0 hb1 kb1, Nat.le_refl, e15]
            exact ⟨R, sm⟩
          · rintro G j x hh hj ⟨rfl, R, sm, e0⟩ ih
            have l := R.l
            have p49 : hI (papd w b s i.toNatClampNeg j) 49 = hI w 49 := papd_I _ _ _ _ _ (by decide) (by decide)
            have p51 : hI (papd w b s i.toNatClampNeg j) 51 = hI w 51 := papd_I _ _ _ _ _ (by decide) (by decide)
            have p103 : hI (papd w b s i.toNatClampNeg j) 103 = hI w 103 := papd_I _ _ _ _ _ (by decide) (by decide)
            have p104 : hI (papd w b s i.toNatClampNeg j) 104 = hI w 104 := papd_I _ _ _ _ _ (by decide) (by decide)
            have pL : hL (papd w b s i.toNatClampNeg j) = hL w := papd_L _ _ _ _ _
            have n' : WN (papd w b s i.toNatClampNeg j) := n.of p49 p51
            have H' : WH (papd w b s i.toNatClampNeg j) := H.of p49 p103 p104
            have hb1 : b < nB (papd w b s i.toNatClampNeg j) := by unfold nB; rw [p49]; exact hb
            have kb1 : boxK (hI (papd w b s i.toNatClampNeg j) 51 b) = true := by rw [p51]; exact kb
            have e15 : hI hh (ad b) 15 = nI j := by rw [R.B.x15 hb1 kb1, papd_n, if_neg (by rw [nI_neg (by omega)]; exact id)]
            obtain ⟨-, e2, e3, e4⟩ := shelf_l l hs
            have cc : j = 0 ∨ ∃ i0, i0 < 60 ∧ i = nI i0 := by
              rcases Nat.eq_zero_or_pos j with z | z
              · exact Or.inl z
              · have q := e0 0 z
                unfold nameOk at q
                have q := of_decide_eq_true (Bool.and_eq_true_iff.mp q).1
                obtain ⟨-, zz, hz, ez⟩ := row_sz n H hs (by rw [q.1]; decide)
                rw [ez, nI_clamp (by omega)] at q
                exact Or.inr ⟨i.toNatClampNeg, by omega, nI_self q.2.1⟩
            have E := t_X7_elementOr R n' H' hs i (k := j) (by omega) cc (-1)
            rw [p103, p104, pL] at E
            have F : isFinder_ w (if hI w 103 s ≤ -2 ∧ 0 ≤ i ∧ i.toNatClampNeg + j < (hI w 104 s).toNatClampNeg then hL w 105 (60 * s + (i.toNatClampNeg + j)) else -1 : Int64).toInt32 = nameOk w s i j := by
              unfold nameOk
              by_cases q : 0 ≤ i ∧ i.toNatClampNeg + j < (hI w 104 s).toNatClampNeg
              · rcases hd with hd | hd
                · rw [hd, if_neg (fun x => absurd x.1 (by decide)), decide_eq_false (fun x => absurd x.1 (by decide)), Bool.false_and]
                  unfold isFinder_ isBody_
                  rw [decide_eq_false (fun x => absurd x.1 (by decide))]; rfl
                · rw [hd, if_pos ⟨by decide, q⟩, decide_eq_true ⟨rfl, q⟩, Bool.true_and]
              · rw [if_neg (fun x => q x.2), decide_eq_false (fun x => q x.2), Bool.false_and]
                unfold isFinder_ isBody_
                rw [decide_eq_false (fun x => absurd x.1 (by decide))]; rfl
            have V : nameOk w s i j = true → (if hI w 103 s ≤ -2 ∧ 0 ≤ i ∧ i.toNatClampNeg + j < (hI w 104 s).toNatClampNeg then hL w 105 (60 * s + (i.toNatClampNeg + j)) else -1 : Int64) = hL w 105 (60 * s + (i.toNatClampNeg + j)) := by
              intro q
              unfold nameOk at q
              have q := of_decide_eq_true (Bool.and_eq_true_iff.mp q).1
              rw [if_pos ⟨by rw [q.1]; decide, q.2⟩]
            generalize (if hI w 103 s ≤ -2 ∧ 0 ≤ i ∧ i.toNatClampNeg + j < (hI w 104 s).toNatClampNeg then hL w 105 (60 * s + (i.toNatClampNeg + j)) else -1 : Int64) = v at E F V
            have FF := t_X3_finderAt l n' R.B v.toInt32
            rw [isFinder_of p49 p51, F] at FF
            by_cases q : nameOk w s i j = true
            · have rr := R.pap hb1 kb1 (q := j) (by omega) (papd_n _ _ _ _ _) v.toInt32
              have i15 : hI (wI hh (ad b + 2) j v.toInt32) (ad b) 15 = nI j := by rw [q_ne (by omega)]; exact e15
              have ih2 := ih (nI (j + 1)) (wI (wI hh (ad b + 2) j v.toInt32) (ad b) 15 (nI (j + 1))) ⟨rfl, by rw [V q] at rr ⊢; exact rr, (sm.wI _ _ _ (by omega)).wI _ _ _ (by omega), fun x hx => by
                rcases Nat.lt_or_ge x j with y | y
                · exact e0 x y
                · have : x = j := by omega
                  subst this; exact q⟩
              have j40 : nI j < 40 := by rw [show (40 : Int32) = nI 40 from rfl, nI_ltI (by omega) (by omega)]; omega
              have e1 : nI j + 1 = nI (j + 1) := nI_add j 1
              simp (config := {decide := true, maxSteps := 5000000}) (disch := omega) only [↓reduceIte, ↓wp_some, ↓wp_none, wp_ite, ↓wp_cl, ↓wp_rz, ↓wp_nz, ↓wp_nzL, ↓wp_fI, ↓wp_fL, ↓wp_fR, ↓wp_pI, ↓wp_pL, ↓wp_pR, ↓wp_pZ, ↓wp_aI, ↓wp_aL, ↓wp_aR, ↓wp_bI, ↓wp_bL, ↓wp_bR, ↓wp_rO, ↓wp_cO, ↓wp_nO, ↓wp_iO, ↓wp_tbI, ↓wp_tbL, ↓wp_jn, q_okT, q_okA, q_gI, q_gL, q_gR, q_sI, q_sL, q_sR, q_SI, q_SL, q_SR, q_IL, q_IR, q_LI, q_LR, q_RI, q_RL, List.contains_cons, List.contains_nil, Nat.reduceBEq, Nat.reduceEqDiff, beq_self_eq_true, Bool.or_false, Bool.false_or, Bool.true_or, Bool.or_true, Bool.and_true, Bool.true_and, Bool.false_and, Bool.and_false, if_true, if_false, Bool.false_eq_true, true_and, and_true, false_and, and_false, and_self, not_true, not_false_iff, reduceCtorEq, forall_const, false_imp_iff, true_imp_iff, true_or, or_true, false_or, or_false, l.r0_0, l.r0_1, l.r0_2, l.r0_3, l.r0_4, l.r0_5, l.r1_1, l.r1_2, l.r1_4, l.r1_6, l.r1_7, l.r1_8, l.r8_0, l.r8_3, l.r8_4, l.r8_5, l.r8_6, l.r8_7, l.r8_8, l.r8_9, l.r9_1, l.r9_2, l.r9_3, l.r9_4, l.r9_9, l.r21_0, l.r21_1, l.r21_3, l.r21_4, l.r21_5, l.r21_6, l.r21_7, l.r21_8, l.r28_3, l.r28_4, l.r28_5, l.r28_6, l.r28_7, l.r28_9, l.r35_0, l.r35_1, l.r35_2, l.r35_3, l.r35_4, l.r35_5, l.r36_4, l.r38_4, l.r40_4, l.r42_4, l.r44_4, l.r46_4, l.s0, l.s1, l.s2, l.s3, l.s4, l.s5, l.s6, l.s7, l.s8, l.s9, l.s10, l.s11, l.s12, l.s13, l.s14, l.s15, l.s16, l.s17, l.s18, l.s19, l.s20, l.s21, l.s22, l.s23, l.s24, l.s25, l.s26, l.s27, l.s28, l.s29, l.s30, l.s31, l.s32, l.s33, l.s34, l.s35, l.s36, l.s37, l.s38, l.s39, l.s40, l.s41, l.s42, l.s43, l.s44, l.s45, l.s46, l.s47, l.s48, n1_0, m1neg, ne_eq, nle2, n24, n10, nle, b10, b11, am1, n0m1, Int32.add_zero, Int32.zero_add, ite_true, ite_false, Bool.and_eq_true, nI_m4, nI_m5, nI_m8, nI_m10, nI_m12, nI_m24, nI_m31, nI_m40, nI_m60, nI_m81, nI_m161, nI_m170, nI_p2, nI_p3, nI_p4, nI_p5, nI_p6, nI_pred, nI_leI, nI_ltI, nI_eq, nI_clamp, nI_neg, nI_ge0, nI_neg1, nI_1, nI_add, nI_mul, dle, decide_true, decide_false, Bool.not_true, Bool.not_false, decide_eq_true_eq, R.B.b0 hb1 kb1, R.B.x0 hb1, R.B.x1 hb1, R.B.b1 hb1 kb1, R.B.b2 hb1 kb1, R.B.b3 hb1 kb1, R.B.br4 hb1 kb1, R.B.br5 hb1 kb1, R.B.br6 hb1 kb1, R.B.br7 hb1 kb1, R.B.x2 hb1 kb1, R.B.x3 hb1 kb1, R.B.x8 hb1 kb1, R.B.x9 hb1 kb1, R.B.x10 hb1 kb1, R.B.x11 hb1 kb1, R.B.x12 hb1 kb1, R.B.x13 hb1 kb1, R.B.x14 hb1 kb1, R.B.x15 hb1 kb1, R.B.x16 hb1 kb1, R.B.x17 hb1 kb1, R.B.x18 hb1 kb1, papd_n, e2, e3, wp_use E, wp_use FF, q, e15, i15, e1, show (m ≤ j) = False from eq_false (by omega)]
              exact ih2
            · rw [runN_at hj e0 (by simpa using q)]
              simp (config := {decide := true, maxSteps := 5000000}) (disch := omega) only [↓reduceIte, ↓wp_some, ↓wp_none, wp_ite, ↓wp_cl, ↓wp_rz, ↓wp_nz, ↓wp_nzL, ↓wp_fI, ↓wp_fL, ↓wp_fR, ↓wp_pI, ↓wp_pL, ↓wp_pR, ↓wp_pZ, ↓wp_aI, ↓wp_aL, ↓wp_aR, ↓wp_bI, ↓wp_bL, ↓wp_bR, ↓wp_rO, ↓wp_cO, ↓wp_nO, ↓wp_iO, ↓wp_tbI, ↓wp_tbL, ↓wp_jn, q_okT, q_okA, q_gI, q_gL, q_gR, q_sI, q_sL, q_sR, q_SI, q_SL, q_SR, q_IL, q_IR, q_LI, q_LR, q_RI, q_RL, List.contains_cons, List.contains_nil, Nat.reduceBEq, Nat.reduceEqDiff, beq_self_eq_true, Bool.or_false, Bool.false_or, Bool.true_or, Bool.or_true, Bool.and_true, Bool.true_and, Bool.false_and, Bool.and_false, if_true, if_false, Bool.false_eq_true, true_and, and_true, false_and, and_false, and_self, not_true, not_false_iff, reduceCtorEq, forall_const, false_imp_iff, true_imp_iff, true_or, or_true, false_or, or_false, l.r0_0, l.r0_1, l.r0_2, l.r0_3, l.r0_4, l.r0_5, l.r1_1, l.r1_2, l.r1_4, l.r1_6, l.r1_7, l.r1_8, l.r8_0, l.r8_3, l.r8_4, l.r8_5, l.r8_6, l.r8_7, l.r8_8, l.r8_9, l.r9_1, l.r9_2, l.r9_3, l.r9_4, l.r9_9, l.r21_0, l.r21_1, l.r21_3, l.r21_4, l.r21_5, l.r21_6, l.r21_7, l.r21_8, l.r28_3, l.r28_4, l.r28_5, l.r28_6, l.r28_7, l.r28_9, l.r35_0, l.r35_1, l.r35_2, l.r35_3, l.r35_4, l.r35_5, l.r36_4, l.r38_4, l.r40_4, l.r42_4, l.r44_4, l.r46_4, l.s0, l.s1, l.s2, l.s3, l.s4, l.s5, l.s6, l.s7, l.s8, l.s9, l.s10, l.s11, l.s12, l.s13, l.s14, l.s15, l.s16, l.s17, l.s18, l.s19, l.s20, l.s21, l.s22, l.s23, l.s24, l.s25, l.s26, l.s27, l.s28, l.s29, l.s30, l.s31, l.s32, l.s33, l.s34, l.s35, l.s36, l.s37, l.s38, l.s39, l.s40, l.s41, l.s42, l.s43, l.s44, l.s45, l.s46, l.s47, l.s48, n1_0, m1neg, ne_eq, nle2, n24, n10, nle, b10, b11, am1, n0m1, Int32.add_zero, Int32.zero_add, ite_true, ite_false, Bool.and_eq_true, nI_m4, nI_m5, nI_m8, nI_m10, nI_m12, nI_m24, nI_m31, nI_m40, nI_m60, nI_m81, nI_m161, nI_m170, nI_p2, nI_p3, nI_p4, nI_p5, nI_p6, nI_pred, nI_leI, nI_ltI, nI_eq, nI_clamp, nI_neg, nI_ge0, nI_neg1, nI_1, nI_add, nI_mul, dle, decide_true, decide_false, Bool.not_true, Bool.not_false, decide_eq_true_eq, R.B.b0 hb1 kb1, R.B.x0 hb1, R.B.x1 hb1, R.B.b1 hb1 kb1, R.B.b2 hb1 kb1, R.B.b3 hb1 kb1, R.B.br4 hb1 kb1, R.B.br5 hb1 kb1, R.B.br6 hb1 kb1, R.B.br7 hb1 kb1, R.B.x2 hb1 kb1, R.B.x3 hb1 kb1, R.B.x8 hb1 kb1, R.B.x9 hb1 kb1, R.B.x10 hb1 kb1, R.B.x11 hb1 kb1, R.B.x12 hb1 kb1, R.B.x13 hb1 kb1, R.B.x14 hb1 kb1, R.B.x15 hb1 kb1, R.B.x16 hb1 kb1, R.B.x17 hb1 kb1, R.B.x18 hb1 kb1, papd_n, e2, e3, wp_use E, wp_use FF, q, e15, show (m ≤ j) = False from eq_false (by omega)]
              exact ⟨R, sm⟩
        by_cases h1 : hI w 103 s = -1
        · simp (config := {decide := true, maxSteps := 5000000}) (disch := omega) only [↓reduceIte, ↓wp_some, ↓wp_none, wp_ite, ↓wp_cl, ↓wp_rz, ↓wp_nz, ↓wp_nzL, ↓wp_fI, ↓wp_fL, ↓wp_fR, ↓wp_pI, ↓wp_pL, ↓wp_pR, ↓wp_pZ, ↓wp_aI, ↓wp_aL, ↓wp_aR, ↓wp_bI, ↓wp_bL, ↓wp_bR, ↓wp_rO, ↓wp_cO, ↓wp_nO, ↓wp_iO, ↓wp_tbI, ↓wp_tbL, ↓wp_jn, q_okT, q_okA, q_gI, q_gL, q_gR, q_sI, q_sL, q_sR, q_SI, q_SL, q_SR, q_IL, q_IR, q_LI, q_LR, q_RI, q_RL, List.contains_cons, List.contains_nil, Nat.reduceBEq, Nat.reduceEqDiff, beq_self_eq_true, Bool.or_false, Bool.false_or, Bool.true_or, Bool.or_true, Bool.and_true, Bool.true_and, Bool.false_and, Bool.and_false, if_true, if_false, Bool.false_eq_true, true_and, and_true, false_and, and_false, and_self, not_true, not_false_iff, reduceCtorEq, forall_const, false_imp_iff, true_imp_iff, true_or, or_true, false_or, or_false, l.r0_0, l.r0_1, l.r0_2, l.r0_3, l.r0_4, l.r0_5, l.r1_1, l.r1_2, l.r1_4, l.r1_6, l.r1_7, l.r1_8, l.r8_0, l.r8_3, l.r8_4, l.r8_5, l.r8_6, l.r8_7, l.r8_8, l.r8_9, l.r9_1, l.r9_2, l.r9_3, l.r9_4, l.r9_9, l.r21_0, l.r21_1, l.r21_3, l.r21_4, l.r21_5, l.r21_6, l.r21_7, l.r21_8, l.r28_3, l.r28_4, l.r28_5, l.r28_6, l.r28_7, l.r28_9, l.r35_0, l.r35_1, l.r35_2, l.r35_3, l.r35_4, l.r35_5, l.r36_4, l.r38_4, l.r40_4, l.r42_4, l.r44_4, l.r46_4, l.s0, l.s1, l.s2, l.s3, l.s4, l.s5, l.s6, l.s7, l.s8, l.s9, l.s10, l.s11, l.s12, l.s13, l.s14, l.s15, l.s16, l.s17, l.s18, l.s19, l.s20, l.s21, l.s22, l.s23, l.s24, l.s25, l.s26, l.s27, l.s28, l.s29, l.s30, l.s31, l.s32, l.s33, l.s34, l.s35, l.s36, l.s37, l.s38, l.s39, l.s40, l.s41, l.s42, l.s43, l.s44, l.s45, l.s46, l.s47, l.s48, n1_0, m1neg, ne_eq, nle2, n24, n10, nle, b10, b11, am1, n0m1, Int32.add_zero, Int32.zero_add, ite_true, ite_false, Bool.and_eq_true, nI_m4, nI_m5, nI_m8, nI_m10, nI_m12, nI_m24, nI_m31, nI_m40, nI_m60, nI_m81, nI_m161, nI_m170, nI_p2, nI_p3, nI_p4, nI_p5, nI_p6, nI_pred, nI_leI, nI_ltI, nI_eq, nI_clamp, nI_neg, nI_ge0, nI_neg1, nI_1, nI_add, nI_mul, dle, decide_true, decide_false, Bool.not_true, Bool.not_false, decide_eq_true_eq, R.B.b0 hb kb, R.B.x0 hb, R.B.x1 hb, R.B.b1 hb kb, R.B.b2 hb kb, R.B.b3 hb kb, R.B.br4 hb kb, R.B.br5 hb kb, R.B.br6 hb kb, R.B.br7 hb kb, R.B.x2 hb kb, R.B.x3 hb kb, R.B.x8 hb kb, R.B.x9 hb kb, R.B.x10 hb kb, R.B.x11 hb kb, R.B.x12 hb kb, R.B.x13 hb kb, R.B.x14 hb kb, R.B.x15 hb kb, R.B.x16 hb kb, R.B.x17 hb kb, R.B.x18 hb kb, e2, e3, wp_use (t_X3_boxAt l n R.B _), wp_use (t_X11_shelfAt l _), wp_use (t_X7_isEmpty R H hs), z, y, k1, k3, k4, h1, cb, cs, cm]
          exact loop (Or.inl h1) rfl
        by_cases h3 : hI w 103 s = -3
        · have h4 : hI w 103 s ≤ -2 ∧ -2 - hI w 103 s = 1 := by rw [h3]; decide
          simp (config := {decide := true, maxSteps := 5000000}) (disch := omega) only [↓reduceIte, ↓wp_some, ↓wp_none, wp_ite, ↓wp_cl, ↓wp_rz, ↓wp_nz, ↓wp_nzL, ↓wp_fI, ↓wp_fL, ↓wp_fR, ↓wp_pI, ↓wp_pL, ↓wp_pR, ↓wp_pZ, ↓wp_aI, ↓wp_aL, ↓wp_aR, ↓wp_bI, ↓wp_bL, ↓wp_bR, ↓wp_rO, ↓wp_cO, ↓wp_nO, ↓wp_iO, ↓wp_tbI, ↓wp_tbL, ↓wp_jn, q_okT, q_okA, q_gI, q_gL, q_gR, q_sI, q_sL, q_sR, q_SI, q_SL, q_SR, q_IL, q_IR, q_LI, q_LR, q_RI, q_RL, List.contains_cons, List.contains_nil, Nat.reduceBEq, Nat.reduceEqDiff, beq_self_eq_true, Bool.or_false, Bool.false_or, Bool.true_or, Bool.or_true, Bool.and_true, Bool.true_and, Bool.false_and, Bool.and_false, if_true, if_false, Bool.false_eq_true, true_and, and_true, false_and, and_false, and_self, not_true, not_false_iff, reduceCtorEq, forall_const, false_imp_iff, true_imp_iff, true_or, or_true, false_or, or_false, l.r0_0, l.r0_1, l.r0_2, l.r0_3, l.r0_4, l.r0_5, l.r1_1, l.r1_2, l.r1_4, l.r1_6, l.r1_7, l.r1_8, l.r8_0, l.r8_3, l.r8_4, l.r8_5, l.r8_6, l.r8_7, l.r8_8, l.r8_9, l.r9_1, l.r9_2, l.r9_3, l.r9_4, l.r9_9, l.r21_0, l.r21_1, l.r21_3, l.r21_4, l.r21_5, l.r21_6, l.r21_7, l.r21_8, l.r28_3, l.r28_4, l.r28_5, l.r28_6, l.r28_7, l.r28_9, l.r35_0, l.r35_1, l.r35_2, l.r35_3, l.r35_4, l.r35_5, l.r36_4, l.r38_4, l.r40_4, l.r42_4, l.r44_4, l.r46_4, l.s0, l.s1, l.s2, l.s3, l.s4, l.s5, l.s6, l.s7, l.s8, l.s9, l.s10, l.s11, l.s12, l.s13, l.s14, l.s15, l.s16, l.s17, l.s18, l.s19, l.s20, l.s21, l.s22, l.s23, l.s24, l.s25, l.s26, l.s27, l.s28, l.s29, l.s30, l.s31, l.s32, l.s33, l.s34, l.s35, l.s36, l.s37, l.s38, l.s39, l.s40, l.s41, l.s42, l.s43, l.s44, l.s45, l.s46, l.s47, l.s48, n1_0, m1neg, ne_eq, nle2, n24, n10, nle, b10, b11, am1, n0m1, Int32.add_zero, Int32.zero_add, ite_true, ite_false, Bool.and_eq_true, nI_m4, nI_m5, nI_m8, nI_m10, nI_m12, nI_m24, nI_m31, nI_m40, nI_m60, nI_m81, nI_m161, nI_m170, nI_p2, nI_p3, nI_p4, nI_p5, nI_p6, nI_pred, nI_leI, nI_ltI, nI_eq, nI_clamp, nI_neg, nI_ge0, nI_neg1, nI_1, nI_add, nI_mul, dle, decide_true, decide_false, Bool.not_true, Bool.not_false, decide_eq_true_eq, R.B.b0 hb kb, R.B.x0 hb, R.B.x1 hb, R.B.b1 hb kb, R.B.b2 hb kb, R.B.b3 hb kb, R.B.br4 hb kb, R.B.br5 hb kb, R.B.br6 hb kb, R.B.br7 hb kb, R.B.x2 hb kb, R.B.x3 hb kb, R.B.x8 hb kb, R.B.x9 hb kb, R.B.x10 hb kb, R.B.x11 hb kb, R.B.x12 hb kb, R.B.x13 hb kb, R.B.x14 hb kb, R.B.x15 hb kb, R.B.x16 hb kb, R.B.x17 hb kb, R.B.x18 hb kb, e2, e3, wp_use (t_X3_boxAt l n R.B _), wp_use (t_X11_shelfAt l _), wp_use (t_X7_isEmpty R H hs), wp_use (t_X7_isRowOf R hs _), z, y, k1, k3, k4, h1, h3, h4, cb, cs, cm]
          exact loop (Or.inr h3) rfl
        · have h4 : ¬ (hI w 103 s ≤ -2 ∧ -2 - hI w 103 s = 1) := fun x => h3 (by have := x.2; grind)
          simp (config := {decide := true, maxSteps := 5000000}) (disch := omega) only [↓reduceIte, ↓wp_some, ↓wp_none, wp_ite, ↓wp_cl, ↓wp_rz, ↓wp_nz, ↓wp_nzL, ↓wp_fI, ↓wp_fL, ↓wp_fR, ↓wp_pI, ↓wp_pL, ↓wp_pR, ↓wp_pZ, ↓wp_aI, ↓wp_aL, ↓wp_aR, ↓wp_bI, ↓wp_bL, ↓wp_bR, ↓wp_rO, ↓wp_cO, ↓wp_nO, ↓wp_iO, ↓wp_tbI, ↓wp_tbL, ↓wp_jn, q_okT, q_okA, q_gI, q_gL, q_gR, q_sI, q_sL, q_sR, q_SI, q_SL, q_SR, q_IL, q_IR, q_LI, q_LR, q_RI, q_RL, List.contains_cons, List.contains_nil, Nat.reduceBEq, Nat.reduceEqDiff, beq_self_eq_true, Bool.or_false, Bool.false_or, Bool.true_or, Bool.or_true, Bool.and_true, Bool.true_and, Bool.false_and, Bool.and_false, if_true, if_false, Bool.false_eq_true, true_and, and_true, false_and, and_false, and_self, not_true, not_false_iff, reduceCtorEq, forall_const, false_imp_iff, true_imp_iff, true_or, or_true, false_or, or_false, l.r0_0, l.r0_1, l.r0_2, l.r0_3, l.r0_4, l.r0_5, l.r1_1, l.r1_2, l.r1_4, l.r1_6, l.r1_7, l.r1_8, l.r8_0, l.r8_3, l.r8_4, l.r8_5, l.r8_6, l.r8_7, l.r8_8, l.r8_9, l.r9_1, l.r9_2, l.r9_3, l.r9_4, l.r9_9, l.r21_0, l.r21_1, l.r21_3, l.r21_4, l.r21_5, l.r21_6, l.r21_7, l.r21_8, l.r28_3, l.r28_4, l.r28_5, l.r28_6, l.r28_7, l.r28_9, l.r35_0, l.r35_1, l.r35_2, l.r35_3, l.r35_4, l.r35_5, l.r36_4, l.r38_4, l.r40_4, l.r42_4, l.r44_4, l.r46_4, l.s0, l.s1, l.s2, l.s3, l.s4, l.s5, l.s6, l.s7, l.s8, l.s9, l.s10, l.s11, l.s12, l.s13, l.s14, l.s15, l.s16, l.s17, l.s18, l.s19, l.s20, l.s21, l.s22, l.s23, l.s24, l.s25, l.s26, l.s27, l.s28, l.s29, l.s30, l.s31, l.s32, l.s33, l.s34, l.s35, l.s36, l.s37, l.s38, l.s39, l.s40, l.s41, l.s42, l.s43, l.s44, l.s45, l.s46, l.s47, l.s48, n1_0, m1neg, ne_eq, nle2, n24, n10, nle, b10, b11, am1, n0m1, Int32.add_zero, Int32.zero_add, ite_true, ite_false, Bool.and_eq_true, nI_m4, nI_m5, nI_m8, nI_m10, nI_m12, nI_m24, nI_m31, nI_m40, nI_m60, nI_m81, nI_m161, nI_m170, nI_p2, nI_p3, nI_p4, nI_p5, nI_p6, nI_pred, nI_leI, nI_ltI, nI_eq, nI_clamp, nI_neg, nI_ge0, nI_neg1, nI_1, nI_add, nI_mul, dle, decide_true, decide_false, Bool.not_true, Bool.not_false, decide_eq_true_eq, R.B.b0 hb kb, R.B.x0 hb, R.B.x1 hb, R.B.b1 hb kb, R.B.b2 hb kb, R.B.b3 hb kb, R.B.br4 hb kb, R.B.br5 hb kb, R.B.br6 hb kb, R.B.br7 hb kb, R.B.x2 hb kb, R.B.x3 hb kb, R.B.x8 hb kb, R.B.x9 hb kb, R.B.x10 hb kb, R.B.x11 hb kb, R.B.x12 hb kb, R.B.x13 hb kb, R.B.x14 hb kb, R.B.x15 hb kb, R.B.x16 hb kb, R.B.x17 hb kb, R.B.x18 hb kb, e2, e3, wp_use (t_X3_boxAt l n R.B _), wp_use (t_X11_shelfAt l _), wp_use (t_X7_isEmpty R H hs), wp_use (t_X7_isRowOf R hs _), z, y, k1, k3, k4, h1, h3, h4, cb, cs, cm]
          exact ⟨R, sm⟩
      · simp (config := {decide := true, maxSteps := 5000000}) (disch := omega) only [↓reduceIte, ↓wp_some, ↓wp_none, wp_ite, ↓wp_cl, ↓wp_rz, ↓wp_nz, ↓wp_nzL, ↓wp_fI, ↓wp_fL, ↓wp_fR, ↓wp_pI, ↓wp_pL, ↓wp_pR, ↓wp_pZ, ↓wp_aI, ↓wp_aL, ↓wp_aR, ↓wp_bI, ↓wp_bL, ↓wp_bR, ↓wp_rO, ↓wp_cO, ↓wp_nO, ↓wp_iO, ↓wp_tbI, ↓wp_tbL, ↓wp_jn, q_okT, q_okA, q_gI, q_gL, q_gR, q_sI, q_sL, q_sR, q_SI, q_SL, q_SR, q_IL, q_IR, q_LI, q_LR, q_RI, q_RL, List.contains_cons, List.contains_nil, Nat.reduceBEq, Nat.reduceEqDiff, beq_self_eq_true, Bool.or_false, Bool.false_or, Bool.true_or, Bool.or_true, Bool.and_true, Bool.true_and, Bool.false_and, Bool.and_false, if_true, if_false, Bool.false_eq_true, true_and, and_true, false_and, and_false, and_self, not_true, not_false_iff, reduceCtorEq, forall_const, false_imp_iff, true_imp_iff, true_or, or_true, false_or, or_false, l.r0_0, l.r0_1, l.r0_2, l.r0_3, l.r0_4, l.r0_5, l.r1_1, l.r1_2, l.r1_4, l.r1_6, l.r1_7, l.r1_8, l.r8_0, l.r8_3, l.r8_4, l.r8_5, l.r8_6, l.r8_7, l.r8_8, l.r8_9, l.r9_1, l.r9_2, l.r9_3, l.r9_4, l.r9_9, l.r21_0, l.r21_1, l.r21_3, l.r21_4, l.r21_5, l.r21_6, l.r21_7, l.r21_8, l.r28_3, l.r28_4, l.r28_5, l.r28_6, l.r28_7, l.r28_9, l.r35_0, l.r35_1, l.r35_2, l.r35_3, l.r35_4, l.r35_5, l.r36_4, l.r38_4, l.r40_4, l.r42_4, l.r44_4, l.r46_4, l.s0, l.s1, l.s2, l.s3, l.s4, l.s5, l.s6, l.s7, l.s8, l.s9, l.s10, l.s11, l.s12, l.s13, l.s14, l.s15, l.s16, l.s17, l.s18, l.s19, l.s20, l.s21, l.s22, l.s23, l.s24, l.s25, l.s26, l.s27, l.s28, l.s29, l.s30, l.s31, l.s32, l.s33, l.s34, l.s35, l.s36, l.s37, l.s38, l.s39, l.s40, l.s41, l.s42, l.s43, l.s44, l.s45, l.s46, l.s47, l.s48, wp_use (t_X3_boxAt l n R.B _), wp_use (t_X11_shelfAt l _), z, y, k1, k3]
        exact ⟨R, sm⟩
    · simp (config := {decide := true, maxSteps := 5000000}) (disch := omega) only [↓reduceIte, ↓wp_some, ↓wp_none, wp_ite, ↓wp_cl, ↓wp_rz, ↓wp_nz, ↓wp_nzL, ↓wp_fI, ↓wp_fL, ↓wp_fR, ↓wp_pI, ↓wp_pL, ↓wp_pR, ↓wp_pZ, ↓wp_aI, ↓wp_aL, ↓wp_aR, ↓wp_bI, ↓wp_bL, ↓wp_bR, ↓wp_rO, ↓wp_cO, ↓wp_nO, ↓wp_iO, ↓wp_tbI, ↓wp_tbL, ↓wp_jn, q_okT, q_okA, q_gI, q_gL, q_gR, q_sI, q_sL, q_sR, q_SI, q_SL, q_SR, q_IL, q_IR, q_LI, q_LR, q_RI, q_RL, List.contains_cons, List.contains_nil, Nat.reduceBEq, Nat.reduceEqDiff, beq_self_eq_true, Bool.or_false, Bool.false_or, Bool.true_or, Bool.or_true, Bool.and_true, Bool.true_and, Bool.false_and, Bool.and_false, if_true, if_false, Bool.false_eq_true, true_and, and_true, false_and, and_false, and_self, not_true, not_false_iff, reduceCtorEq, forall_const, false_imp_iff, true_imp_iff, true_or, or_true, false_or, or_false, l.r0_0, l.r0_1, l.r0_2, l.r0_3, l.r0_4, l.r0_5, l.r1_1, l.r1_2, l.r1_4, l.r1_6, l.r1_7, l.r1_8, l.r8_0, l.r8_3, l.r8_4, l.r8_5, l.r8_6, l.r8_7, l.r8_8, l.r8_9, l.r9_1, l.r9_2, l.r9_3, l.r9_4, l.r9_9, l.r21_0, l.r21_1, l.r21_3, l.r21_4, l.r21_5, l.r21_6, l.r21_7, l.r21_8, l.r28_3, l.r28_4, l.r28_5, l.r28_6, l.r28_7, l.r28_9, l.r35_0, l.r35_1, l.r35_2, l.r35_3, l.r35_4, l.r35_5, l.r36_4, l.r38_4, l.r40_4, l.r42_4, l.r44_4, l.r46_4, l.s0, l.s1, l.s2, l.s3, l.s4, l.s5, l.s6, l.s7, l.s8, l.s9, l.s10, l.s11, l.s12, l.s13, l.s14, l.s15, l.s16, l.s17, l.s18, l.s19, l.s20, l.s21, l.s22, l.s23, l.s24, l.s25, l.s26, l.s27, l.s28, l.s29, l.s30, l.s31, l.s32, l.s33, l.s34, l.s35, l.s36, l.s37, l.s38, l.s39, l.s40, l.s41, l.s42, l.s43, l.s44, l.s45, l.s46, l.s47, l.s48, wp_use (t_X3_boxAt l n R.B _), wp_use (t_X11_shelfAt l _), z, y]
      exact ⟨R, sm⟩
  · simp (config := {decide := true, maxSteps := 5000000}) (disch := omega) only [↓reduceIte, ↓wp_some, ↓wp_none, wp_ite, ↓wp_cl, ↓wp_rz, ↓wp_nz, ↓wp_nzL, ↓wp_fI, ↓wp_fL, ↓wp_fR, ↓wp_pI, ↓wp_pL, ↓wp_pR, ↓wp_pZ, ↓wp_aI, ↓wp_aL, ↓wp_aR, ↓wp_bI, ↓wp_bL, ↓wp_bR, ↓wp_rO, ↓wp_cO, ↓wp_nO, ↓wp_iO, ↓wp_tbI, ↓wp_tbL, ↓wp_jn, q_okT, q_okA, q_gI, q_gL, q_gR, q_sI, q_sL, q_sR, q_SI, q_SL, q_SR, q_IL, q_IR, q_LI, q_LR, q_RI, q_RL, List.contains_cons, List.contains_nil, Nat.reduceBEq, Nat.reduceEqDiff, beq_self_eq_true, Bool.or_false, Bool.false_or, Bool.true_or, Bool.or_true, Bool.and_true, Bool.true_and, Bool.false_and, Bool.and_false, if_true, if_false, Bool.false_eq_true, true_and, and_true, false_and, and_false, and_self, not_true, not_false_iff, reduceCtorEq, forall_const, false_imp_iff, true_imp_iff, true_or, or_true, false_or, or_false, l.r0_0, l.r0_1, l.r0_2, l.r0_3, l.r0_4, l.r0_5, l.r1_1, l.r1_2, l.r1_4, l.r1_6, l.r1_7, l.r1_8, l.r8_0, l.r8_3, l.r8_4, l.r8_5, l.r8_6, l.r8_7, l.r8_8, l.r8_9, l.r9_1, l.r9_2, l.r9_3, l.r9_4, l.r9_9, l.r21_0, l.r21_1, l.r21_3, l.r21_4, l.r21_5, l.r21_6, l.r21_7, l.r21_8, l.r28_3, l.r28_4, l.r28_5, l.r28_6, l.r28_7, l.r28_9, l.r35_0, l.r35_1, l.r35_2, l.r35_3, l.r35_4, l.r35_5, l.r36_4, l.r38_4, l.r40_4, l.r42_4, l.r44_4, l.r46_4, l.s0, l.s1, l.s2, l.s3, l.s4, l.s5, l.s6, l.s7, l.s8, l.s9, l.s10, l.s11, l.s12, l.s13, l.s14, l.s15, l.s16, l.s17, l.s18, l.s19, l.s20, l.s21, l.s22, l.s23, l.s24, l.s25, l.s26, l.s27, l.s28, l.s29, l.s30, l.s31, l.s32, l.s33, l.s34, l.s35, l.s36, l.s37, l.s38, l.s39, l.s40, l.s41, l.s42, l.s43, l.s44, l.s45, l.s46, l.s47, l.s48, wp_use (t_X3_boxAt l n R.B _), wp_use (t_X11_shelfAt l _), z]
    exact ⟨R, sm⟩
