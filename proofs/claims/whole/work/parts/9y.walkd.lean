theorem t_extend {h w : AH} {P : Nat → Prog} {ad : Nat → Nat} (R0 : RC h w P ad) (n : WN w) (W : WB w) (M : WM w) (X : WWo w) {home s l0 : Nat} (o : okT' (told_w w home s l0)) : ∀ (f : Nat) (k : Nat) (u : Nat) (row : List Nat) (c t v : Nat) (B : Bst) (hh : AH), 8 ≤ f + row.length → 2 * f ≤ k → u < 128 → pc7 u = row.length → (∀ i ∈ row, i < nW w) → StC h hh (told_w w home s l0) row B → okBst (told_w w home s l0) B → c < 60 → t ≤ tL (told_w w home s l0) → v ≤ 99 * row.length → wp (G_X10_extend k 0 (some 28) (nI row.length) (nI u) (nI c) (nI t) (nI v) hh) (fun _ h' => StC h h' (told_w w home s l0) row (wOn (told_w w home s l0) f row u c t v B) ∧ okBst (told_w w home s l0) (wOn (told_w w home s l0) f row u c t v B)) := by
  have hw := n.w7
  have hW : tW (told_w w home s l0) = nW w := rfl
  have hL : tL (told_w w home s l0) ≤ 48 := o.2.2.2.1
  have hH : tHome (told_w w home s l0) < 60 := o.2.1
  intro f
  induction f with
  | zero =>
    intro k u row c t v B hh h1 h2 h3 h4
    have := pc7_le u
    omega
  | succ f ih =>
    intro k u row c t v B hh h1 h2 h3 h4 h5 S ob hc ht hv
    obtain ⟨k, rfl⟩ : ∃ q, k = q + 2 := ⟨k - 2, by omega⟩
    have r7 : row.length ≤ 7 := by rw [← h4]; exact pc7_le u
    have ws := wOn_s (told_w w home s l0) f row u c t v B
    rw [if_neg (by omega)] at ws
    rw [ws, hW, eq_G_X10_extend, if_pos rfl]
    unfold fb_X10_extend
    by_cases full : row.length = 7
    · have R := R0.sd S.1
      have l := R.l
      have up : ∀ (F : (Int32 → AH → Option (Unit × AH)) → Int32 → AH → Option (Unit × AH)) (N : Nat) (x : Int32) (y : AH) (Q : Unit → AH → Prop), wp (F (lp (fun _ _ => none) F N) x y) Q → wp (lp (fun _ _ => none) F (N + 1) x y) Q := fun _ _ _ _ _ h => h
      rw [lpN_eq, show (1000000 : Nat) = 999999 + 1 from rfl]
      refine up _ _ _ _ _ ?_
      have all := pc7_full u h3 (by omega)
      rw [foldN_id (fun i B hi => if_pos (all i (by omega)))]
      have c7 : (7 : Int32) ≤ nI row.length := by rw [full]; decide
      by_cases z : hI w 49 65 ≤ 0
      · simp (config := {decide := true, maxSteps := 5000000}) (disch := omega) only [↓reduceIte, ↓wp_some, ↓wp_none, wp_ite, ↓wp_cl, ↓wp_rz, ↓wp_nz, ↓wp_nzL, ↓wp_fI, ↓wp_fL, ↓wp_fR, ↓wp_pI, ↓wp_pL, ↓wp_pR, ↓wp_pZ, ↓wp_aI, ↓wp_aL, ↓wp_aR, ↓wp_bI, ↓wp_bL, ↓wp_bR, ↓wp_rO, ↓wp_cO, ↓wp_nO, ↓wp_iO, ↓wp_tbI, ↓wp_tbL, ↓wp_jn, q_okT, q_okA, q_gI, q_gL, q_gR, q_sI, q_sL, q_sR, q_SI, q_SL, q_SR, q_II, q_IL, q_IR, q_LI, q_LL, q_LR, q_RI, q_RL, q_RR, List.contains_cons, List.contains_nil, Nat.reduceBEq, Nat.reduceEqDiff, beq_self_eq_true, Bool.or_false, Bool.false_or, Bool.true_or, Bool.or_true, Bool.and_true, Bool.true_and, Bool.false_and, Bool.and_false, if_true, if_false, Bool.false_eq_true, true_and, and_true, false_and, and_false, and_self, not_true, not_false_iff, reduceCtorEq, forall_const, false_imp_iff, true_imp_iff, true_or, or_true, false_or, or_false, l.r0_0, l.r0_1, l.r0_2, l.r0_3, l.r0_4, l.r0_5, l.r1_1, l.r1_2, l.r1_4, l.r1_6, l.r1_7, l.r1_8, l.r8_0, l.r8_3, l.r8_4, l.r8_5, l.r8_6, l.r8_7, l.r8_8, l.r8_9, l.r9_1, l.r9_2, l.r9_3, l.r9_4, l.r9_9, l.r21_0, l.r21_1, l.r21_3, l.r21_4, l.r21_5, l.r21_6, l.r21_7, l.r21_8, l.r28_3, l.r28_4, l.r28_5, l.r28_6, l.r28_7, l.r28_9, l.r35_0, l.r35_1, l.r35_2, l.r35_3, l.r35_4, l.r35_5, l.r36_4, l.r38_4, l.r40_4, l.r42_4, l.r44_4, l.r46_4, l.s0, l.s1, l.s2, l.s3, l.s4, l.s5, l.s6, l.s7, l.s8, l.s9, l.s10, l.s11, l.s12, l.s13, l.s14, l.s15, l.s16, l.s17, l.s18, l.s19, l.s20, l.s21, l.s22, l.s23, l.s24, l.s25, l.s26, l.s27, l.s28, l.s29, l.s30, l.s31, l.s32, l.s33, l.s34, l.s35, l.s36, l.s37, l.s38, l.s39, l.s40, l.s41, l.s42, l.s43, l.s44, l.s45, l.s46, l.s47, l.s48, R.wi, z]
        exact ⟨S, ob⟩
      · simp (config := {decide := true, maxSteps := 5000000}) (disch := omega) only [↓reduceIte, ↓wp_some, ↓wp_none, wp_ite, ↓wp_cl, ↓wp_rz, ↓wp_nz, ↓wp_nzL, ↓wp_fI, ↓wp_fL, ↓wp_fR, ↓wp_pI, ↓wp_pL, ↓wp_pR, ↓wp_pZ, ↓wp_aI, ↓wp_aL, ↓wp_aR, ↓wp_bI, ↓wp_bL, ↓wp_bR, ↓wp_rO, ↓wp_cO, ↓wp_nO, ↓wp_iO, ↓wp_tbI, ↓wp_tbL, ↓wp_jn, q_okT, q_okA, q_gI, q_gL, q_gR, q_sI, q_sL, q_sR, q_SI, q_SL, q_SR, q_II, q_IL, q_IR, q_LI, q_LL, q_LR, q_RI, q_RL, q_RR, List.contains_cons, List.contains_nil, Nat.reduceBEq, Nat.reduceEqDiff, beq_self_eq_true, Bool.or_false, Bool.false_or, Bool.true_or, Bool.or_true, Bool.and_true, Bool.true_and, Bool.false_and, Bool.and_false, if_true, if_false, Bool.false_eq_true, true_and, and_true, false_and, and_false, and_self, not_true, not_false_iff, reduceCtorEq, forall_const, false_imp_iff, true_imp_iff, true_or, or_true, false_or, or_false, l.r0_0, l.r0_1, l.r0_2, l.r0_3, l.r0_4, l.r0_5, l.r1_1, l.r1_2, l.r1_4, l.r1_6, l.r1_7, l.r1_8, l.r8_0, l.r8_3, l.r8_4, l.r8_5, l.r8_6, l.r8_7, l.r8_8, l.r8_9, l.r9_1, l.r9_2, l.r9_3, l.r9_4, l.r9_9, l.r21_0, l.r21_1, l.r21_3, l.r21_4, l.r21_5, l.r21_6, l.r21_7, l.r21_8, l.r28_3, l.r28_4, l.r28_5, l.r28_6, l.r28_7, l.r28_9, l.r35_0, l.r35_1, l.r35_2, l.r35_3, l.r35_4, l.r35_5, l.r36_4, l.r38_4, l.r40_4, l.r42_4, l.r44_4, l.r46_4, l.s0, l.s1, l.s2, l.s3, l.s4, l.s5, l.s6, l.s7, l.s8, l.s9, l.s10, l.s11, l.s12, l.s13, l.s14, l.s15, l.s16, l.s17, l.s18, l.s19, l.s20, l.s21, l.s22, l.s23, l.s24, l.s25, l.s26, l.s27, l.s28, l.s29, l.s30, l.s31, l.s32, l.s33, l.s34, l.s35, l.s36, l.s37, l.s38, l.s39, l.s40, l.s41, l.s42, l.s43, l.s44, l.s45, l.s46, l.s47, l.s48, R.wi, z, c7]
        exact ⟨S, ob⟩
    have c7 : ¬ (7 : Int32) ≤ nI row.length := by rw [show (7 : Int32) = nI 7 from rfl, nI_leI (by omega) (by omega)]; omega
    have cr : (nI row.length).toNatClampNeg = row.length := nI_clamp (by omega)
    have er : nI row.length + 1 = nI (row.length + 1) := nI_add _ 1
    generalize hg : (fun i (B : Bst) => if u.testBit i = true then B else wOn (told_w w home s l0) f (row ++ [i]) (u ||| 2 ^ i) (tC (told_w w home s l0) i) (doneN (told_w w home s l0) i c t) (v + tV (told_w w home s l0) i) (cmpB (told_w w home s l0) (row ++ [i]) (v + tV (told_w w home s l0) i) (doneN (told_w w home s l0) i c t + hbN (tC (told_w w home s l0) i) (tHome (told_w w home s l0))) B)) = g
    refine wp_g2 (nW w) (fun i x hh => x = nI i ∧ StC h hh (told_w w home s l0) row (foldN g B i) ∧ okBst (told_w w home s l0) (foldN g B i)) ⟨rfl, S, ob⟩ (by omega) ?_ ?_
    · rintro G x hh ⟨rfl, S, ob⟩
      have R := R0.sd S.1
      have l := R.l
      have e0 : hI hh 28 0 = nI (nW w) := by rw [R.wi]; exact n.w
      simp (config := {decide := true, maxSteps := 5000000}) (disch := omega) only [↓reduceIte, ↓wp_some, ↓wp_none, wp_ite, ↓wp_cl, ↓wp_rz, ↓wp_nz, ↓wp_nzL, ↓wp_fI, ↓wp_fL, ↓wp_fR, ↓wp_pI, ↓wp_pL, ↓wp_pR, ↓wp_pZ, ↓wp_aI, ↓wp_aL, ↓wp_aR, ↓wp_bI, ↓wp_bL, ↓wp_bR, ↓wp_rO, ↓wp_cO, ↓wp_nO, ↓wp_iO, ↓wp_tbI, ↓wp_tbL, ↓wp_jn, q_okT, q_okA, q_gI, q_gL, q_gR, q_sI, q_sL, q_sR, q_SI, q_SL, q_SR, q_II, q_IL, q_IR, q_LI, q_LL, q_LR, q_RI, q_RL, q_RR, List.contains_cons, List.contains_nil, Nat.reduceBEq, Nat.reduceEqDiff, beq_self_eq_true, Bool.or_false, Bool.false_or, Bool.true_or, Bool.or_true, Bool.and_true, Bool.true_and, Bool.false_and, Bool.and_false, if_true, if_false, Bool.false_eq_true, true_and, and_true, false_and, and_false, and_self, not_true, not_false_iff, reduceCtorEq, forall_const, false_imp_iff, true_imp_iff, true_or, or_true, false_or, or_false, l.r0_0, l.r0_1, l.r0_2, l.r0_3, l.r0_4, l.r0_5, l.r1_1, l.r1_2, l.r1_4, l.r1_6, l.r1_7, l.r1_8, l.r8_0, l.r8_3, l.r8_4, l.r8_5, l.r8_6, l.r8_7, l.r8_8, l.r8_9, l.r9_1, l.r9_2, l.r9_3, l.r9_4, l.r9_9, l.r21_0, l.r21_1, l.r21_3, l.r21_4, l.r21_5, l.r21_6, l.r21_7, l.r21_8, l.r28_3, l.r28_4, l.r28_5, l.r28_6, l.r28_7, l.r28_9, l.r35_0, l.r35_1, l.r35_2, l.r35_3, l.r35_4, l.r35_5, l.r36_4, l.r38_4, l.r40_4, l.r42_4, l.r44_4, l.r46_4, l.s0, l.s1, l.s2, l.s3, l.s4, l.s5, l.s6, l.s7, l.s8, l.s9, l.s10, l.s11, l.s12, l.s13, l.s14, l.s15, l.s16, l.s17, l.s18, l.s19, l.s20, l.s21, l.s22, l.s23, l.s24, l.s25, l.s26, l.s27, l.s28, l.s29, l.s30, l.s31, l.s32, l.s33, l.s34, l.s35, l.s36, l.s37, l.s38, l.s39, l.s40, l.s41, l.s42, l.s43, l.s44, l.s45, l.s46, l.s47, l.s48, e0, Int32.le_refl]
      exact ⟨S, ob⟩
    · rintro G i x hh hi ⟨rfl, S, ob⟩ ih2
      have R := R0.sd S.1
      have l := R.l
      have e0 : hI hh 28 0 = nI (nW w) := by rw [R.wi]; exact n.w
      have li : ¬ nI (nW w) ≤ nI i := by rw [nI_leI (by omega) (by omega)]; omega
      have ei : nI i + 1 = nI (i + 1) := nI_add _ 1
      have ci : (nI i).toNatClampNeg = i := nI_clamp (by omega)
      have bt := bit_t u h3 i (by omega)
      have bo := bit_o u h3 i (by omega)
      have gi : ∀ B, g i B = if u.testBit i = true then B else wOn (told_w w home s l0) f (row ++ [i]) (u ||| 2 ^ i) (tC (told_w w home s l0) i) (doneN (told_w w home s l0) i c t) (v + tV (told_w w home s l0) i) (cmpB (told_w w home s l0) (row ++ [i]) (v + tV (told_w w home s l0) i) (doneN (told_w w home s l0) i c t + hbN (tC (told_w w home s l0) i) (tHome (told_w w home s l0))) B) := fun B => by rw [← hg]
      rw [foldN_S, gi] at ih2
      generalize foldN g B i = Bi at S ob ih2 ⊢
      by_cases tb : u.testBit i = true
      · rw [if_pos tb] at bt ih2
        have n10 : ¬ (1 : Int32) = 0 := by decide
        have ih2 := ih2 (nI (i + 1)) hh ⟨rfl, S, ob⟩
        simp (config := {decide := true, maxSteps := 5000000}) (disch := omega) only [↓reduceIte, ↓wp_some, ↓wp_none, wp_ite, ↓wp_cl, ↓wp_rz, ↓wp_nz, ↓wp_nzL, ↓wp_fI, ↓wp_fL, ↓wp_fR, ↓wp_pI, ↓wp_pL, ↓wp_pR, ↓wp_pZ, ↓wp_aI, ↓wp_aL, ↓wp_aR, ↓wp_bI, ↓wp_bL, ↓wp_bR, ↓wp_rO, ↓wp_cO, ↓wp_nO, ↓wp_iO, ↓wp_tbI, ↓wp_tbL, ↓wp_jn, q_okT, q_okA, q_gI, q_gL, q_gR, q_sI, q_sL, q_sR, q_SI, q_SL, q_SR, q_II, q_IL, q_IR, q_LI, q_LL, q_LR, q_RI, q_RL, q_RR, List.contains_cons, List.contains_nil, Nat.reduceBEq, Nat.reduceEqDiff, beq_self_eq_true, Bool.or_false, Bool.false_or, Bool.true_or, Bool.or_true, Bool.and_true, Bool.true_and, Bool.false_and, Bool.and_false, if_true, if_false, Bool.false_eq_true, true_and, and_true, false_and, and_false, and_self, not_true, not_false_iff, reduceCtorEq, forall_const, false_imp_iff, true_imp_iff, true_or, or_true, false_or, or_false, l.r0_0, l.r0_1, l.r0_2, l.r0_3, l.r0_4, l.r0_5, l.r1_1, l.r1_2, l.r1_4, l.r1_6, l.r1_7, l.r1_8, l.r8_0, l.r8_3, l.r8_4, l.r8_5, l.r8_6, l.r8_7, l.r8_8, l.r8_9, l.r9_1, l.r9_2, l.r9_3, l.r9_4, l.r9_9, l.r21_0, l.r21_1, l.r21_3, l.r21_4, l.r21_5, l.r21_6, l.r21_7, l.r21_8, l.r28_3, l.r28_4, l.r28_5, l.r28_6, l.r28_7, l.r28_9, l.r35_0, l.r35_1, l.r35_2, l.r35_3, l.r35_4, l.r35_5, l.r36_4, l.r38_4, l.r40_4, l.r42_4, l.r44_4, l.r46_4, l.s0, l.s1, l.s2, l.s3, l.s4, l.s5, l.s6, l.s7, l.s8, l.s9, l.s10, l.s11, l.s12, l.s13, l.s14, l.s15, l.s16, l.s17, l.s18, l.s19, l.s20, l.s21, l.s22, l.s23, l.s24, l.s25, l.s26, l.s27, l.s28, l.s29, l.s30, l.s31, l.s32, l.s33, l.s34, l.s35, l.s36, l.s37, l.s38, l.s39, l.s40, l.s41, l.s42, l.s43, l.s44, l.s45, l.s46, l.s47, l.s48, e0, li, c7, bt, n10, ei]
        exact ih2
      · rw [if_neg tb] at bt
        rw [if_neg tb] at ih2
        have bs := pc7_s u h3 i (by omega) (by simpa using tb)
        have S1 := S.put i
        have R1 := R0.sd S1.1
        have l1 := R1.l
        have q := o.2.2.2.2 i hi
        have dl := doneN_le o hi hc (show t ≤ 48 by omega)
        have tbh := t_X10_timeBehind R1 n W M X hi o S1.2.2.1 hc (show t ≤ 250 by omega)
        obtain ⟨b, b1, b3, r30, -, e, e5, e1, e2⟩ := wfact R1 n W M X hi home s l0
        have i31 : hI (wI hh 33 row.length (nI i)) 31 i = nI (tV (told_w w home s l0) i) := by rw [R1.i31]; exact e1
        have ev : nI v + nI (tV (told_w w home s l0) i) = nI (v + tV (told_w w home s l0) i) := nI_add _ _
        have len : (row ++ [i]).length = row.length + 1 := by rw [List.length_append]; rfl
        have cel := t_X10_cellOf R1 n W M X hi home s l0
        have e33 : hI (wI hh 33 row.length (nI i)) 33 row.length = nI i := q_at
        have em : nI (row.length + 1) - 1 = nI row.length := nI_pred _
        have hbq := far_hb (tC (told_w w home s l0) i) q.1 (tHome (told_w w home s l0)) hH
        have h7 := hbN_le (tC (told_w w home s l0) i) q.1 (tHome (told_w w home s l0)) hH
        have ea : nI (doneN (told_w w home s l0) i c t) + nI (hbN (tC (told_w w home s l0) i) (tHome (told_w w home s l0))) = nI (doneN (told_w w home s l0) i c t + hbN (tC (told_w w home s l0) i) (tHome (told_w w home s l0))) := nI_add _ _
        -- the turn of goOnBehind
        have go : wp (G_X10_extend (k + 1) 1 (some 28) (nI (row.length + 1)) (nI (u ||| 2 ^ i)) (nI (doneN (told_w w home s l0) i c t)) (nI (v + tV (told_w w home s l0) i)) 0 (wI hh 33 row.length (nI i))) (fun _ h' => StC h h' (told_w w home s l0) (row ++ [i]) (wOn (told_w w home s l0) f (row ++ [i]) (u ||| 2 ^ i) (tC (told_w w home s l0) i) (doneN (told_w w home s l0) i c t) (v + tV (told_w w home s l0) i) (cmpB (told_w w home s l0) (row ++ [i]) (v + tV (told_w w home s l0) i) (doneN (told_w w home s l0) i c t + hbN (tC (told_w w home s l0) i) (tHome (told_w w home s l0))) Bi)) ∧ okBst (told_w w home s l0) (wOn (told_w w home s l0) f (row ++ [i]) (u ||| 2 ^ i) (tC (told_w w home s l0) i) (doneN (told_w w home s l0) i c t) (v + tV (told_w w home s l0) i) (cmpB (told_w w home s l0) (row ++ [i]) (v + tV (told_w w home s l0) i) (doneN (told_w w home s l0) i c t + hbN (tC (told_w w home s l0) i) (tHome (told_w w home s l0))) Bi))) := by
          rw [eq_G_X10_extend, if_neg (by decide)]
          unfold fb_X10_goOnBehind
          have l := R.l
          by_cases late : tL (told_w w home s l0) < doneN (told_w w home s l0) i c t
          · have lt : nI (tL (told_w w home s l0)) < nI (doneN (told_w w home s l0) i c t) := by rw [nI_ltI (by omega) (by omega)]; exact late
            rw [cmpB_late (by omega), wOn_late late]
            simp (config := {decide := true, maxSteps := 5000000}) (disch := omega) only [↓reduceIte, ↓wp_some, ↓wp_none, wp_ite, ↓wp_cl, ↓wp_rz, ↓wp_nz, ↓wp_nzL, ↓wp_fI, ↓wp_fL, ↓wp_fR, ↓wp_pI, ↓wp_pL, ↓wp_pR, ↓wp_pZ, ↓wp_aI, ↓wp_aL, ↓wp_aR, ↓wp_bI, ↓wp_bL, ↓wp_bR, ↓wp_rO, ↓wp_cO, ↓wp_nO, ↓wp_iO, ↓wp_tbI, ↓wp_tbL, ↓wp_jn, q_okT, q_okA, q_gI, q_gL, q_gR, q_sI, q_sL, q_sR, q_SI, q_SL, q_SR, q_IL, q_IR, q_LI, q_LR, q_RI, q_RL, List.contains_cons, List.contains_nil, Nat.reduceBEq, Nat.reduceEqDiff, beq_self_eq_true, Bool.or_false, Bool.false_or, Bool.true_or, Bool.or_true, Bool.and_true, Bool.true_and, Bool.false_and, Bool.and_false, if_true, if_false, Bool.false_eq_true, true_and, and_true, false_and, and_false, and_self, not_true, not_false_iff, reduceCtorEq, forall_const, false_imp_iff, true_imp_iff, true_or, or_true, false_or, or_false, l.r0_0, l.r0_1, l.r0_2, l.r0_3, l.r0_4, l.r0_5, l.r1_1, l.r1_2, l.r1_4, l.r1_6, l.r1_7, l.r1_8, l.r8_0, l.r8_3, l.r8_4, l.r8_5, l.r8_6, l.r8_7, l.r8_8, l.r8_9, l.r9_1, l.r9_2, l.r9_3, l.r9_4, l.r9_9, l.r21_0, l.r21_1, l.r21_3, l.r21_4, l.r21_5, l.r21_6, l.r21_7, l.r21_8, l.r28_3, l.r28_4, l.r28_5, l.r28_6, l.r28_7, l.r28_9, l.r35_0, l.r35_1, l.r35_2, l.r35_3, l.r35_4, l.r35_5, l.r36_4, l.r38_4, l.r40_4, l.r42_4, l.r44_4, l.r46_4, l.s0, l.s1, l.s2, l.s3, l.s4, l.s5, l.s6, l.s7, l.s8, l.s9, l.s10, l.s11, l.s12, l.s13, l.s14, l.s15, l.s16, l.s17, l.s18, l.s19, l.s20, l.s21, l.s22, l.s23, l.s24, l.s25, l.s26, l.s27, l.s28, l.s29, l.s30, l.s31, l.s32, l.s33, l.s34, l.s35, l.s36, l.s37, l.s38, l.s39, l.s40, l.s41, l.s42, l.s43, l.s44, l.s45, l.s46, l.s47, l.s48, em, cr, e33, wp_use cel, S1.2.2.2.1, lt, nI_neg, dle, decide_false, Bool.not_false]
            exact ⟨S1, ob⟩
          · have lt : ¬ nI (tL (told_w w home s l0)) < nI (doneN (told_w w home s l0) i c t) := by rw [nI_ltI (by omega) (by omega)]; exact late
            have cm := t_X10_compare l1 o (row := row ++ [i]) (by rw [len]; omega) S1 ob (v := v + tV (told_w w home s l0) i) (a := doneN (told_w w home s l0) i c t + hbN (tC (told_w w home s l0) i) (tHome (told_w w home s l0))) (by omega) (by omega) (by omega)
            have ob2 := cmpB_ok o (row := row ++ [i]) (v := v + tV (told_w w home s l0) i) (a := doneN (told_w w home s l0) i c t + hbN (tC (told_w w home s l0) i) (tHome (told_w w home s l0))) ob (by omega) (by omega) (by rw [len]; omega) (by rw [len]; omega) (fun j hj => by
              rw [List.mem_append, List.mem_singleton] at hj
              rcases hj with hj | rfl
              · exact h5 j hj
              · exact hi)
            rw [len] at cm
            have s13 := S1.2.1
            simp (config := {decide := true, maxSteps := 5000000}) (disch := omega) only [↓reduceIte, ↓wp_some, ↓wp_none, wp_ite, ↓wp_cl, ↓wp_rz, ↓wp_nz, ↓wp_nzL, ↓wp_fI, ↓wp_fL, ↓wp_fR, ↓wp_pI, ↓wp_pL, ↓wp_pR, ↓wp_pZ, ↓wp_aI, ↓wp_aL, ↓wp_aR, ↓wp_bI, ↓wp_bL, ↓wp_bR, ↓wp_rO, ↓wp_cO, ↓wp_nO, ↓wp_iO, ↓wp_tbI, ↓wp_tbL, ↓wp_jn, q_okT, q_okA, q_gI, q_gL, q_gR, q_sI, q_sL, q_sR, q_SI, q_SL, q_SR, q_IL, q_IR, q_LI, q_LR, q_RI, q_RL, List.contains_cons, List.contains_nil, Nat.reduceBEq, Nat.reduceEqDiff, beq_self_eq_true, Bool.or_false, Bool.false_or, Bool.true_or, Bool.or_true, Bool.and_true, Bool.true_and, Bool.false_and, Bool.and_false, if_true, if_false, Bool.false_eq_true, true_and, and_true, false_and, and_false, and_self, not_true, not_false_iff, reduceCtorEq, forall_const, false_imp_iff, true_imp_iff, true_or, or_true, false_or, or_false, l.r0_0, l.r0_1, l.r0_2, l.r0_3, l.r0_4, l.r0_5, l.r1_1, l.r1_2, l.r1_4, l.r1_6, l.r1_7, l.r1_8, l.r8_0, l.r8_3, l.r8_4, l.r8_5, l.r8_6, l.r8_7, l.r8_8, l.r8_9, l.r9_1, l.r9_2, l.r9_3, l.r9_4, l.r9_9, l.r21_0, l.r21_1, l.r21_3, l.r21_4, l.r21_5, l.r21_6, l.r21_7, l.r21_8, l.r28_3, l.r28_4, l.r28_5, l.r28_6, l.r28_7, l.r28_9, l.r35_0, l.r35_1, l.r35_2, l.r35_3, l.r35_4, l.r35_5, l.r36_4, l.r38_4, l.r40_4, l.r42_4, l.r44_4, l.r46_4, l.s0, l.s1, l.s2, l.s3, l.s4, l.s5, l.s6, l.s7, l.s8, l.s9, l.s10, l.s11, l.s12, l.s13, l.s14, l.s15, l.s16, l.s17, l.s18, l.s19, l.s20, l.s21, l.s22, l.s23, l.s24, l.s25, l.s26, l.s27, l.s28, l.s29, l.s30, l.s31, l.s32, l.s33, l.s34, l.s35, l.s36, l.s37, l.s38, l.s39, l.s40, l.s41, l.s42, l.s43, l.s44, l.s45, l.s46, l.s47, l.s48, em, cr, e33, wp_use cel, S1.2.2.2.1, s13, lt, wp_use (t_X11_hoursBetween _ _ _), hbq, ea, nI_neg, dle, decide_false, Bool.not_false]
            refine wp_mono cm ?_
            rintro _ h3 ⟨-, S3⟩
            have R3 := R0.sd S3.1
            have l := R3.l
            have ihx := ih k (u ||| 2 ^ i) (row ++ [i]) (tC (told_w w home s l0) i) (doneN (told_w w home s l0) i c t) (v + tV (told_w w home s l0) i) _ h3 (by rw [len]; omega) (by omega) bs.2 (by rw [len, bs.1]; omega) (fun j hj => by
              rw [List.mem_append, List.mem_singleton] at hj
              rcases hj with hj | rfl
              · exact h5 j hj
              · exact hi) S3 ob2 q.1 (by omega) (by rw [len]; omega)
            rw [len] at ihx
            simp (config := {decide := true, maxSteps := 5000000}) (disch := omega) only [↓reduceIte, ↓wp_some, ↓wp_none, wp_ite, ↓wp_cl, ↓wp_rz, ↓wp_nz, ↓wp_nzL, ↓wp_fI, ↓wp_fL, ↓wp_fR, ↓wp_pI, ↓wp_pL, ↓wp_pR, ↓wp_pZ, ↓wp_aI, ↓wp_aL, ↓wp_aR, ↓wp_bI, ↓wp_bL, ↓wp_bR, ↓wp_rO, ↓wp_cO, ↓wp_nO, ↓wp_iO, ↓wp_tbI, ↓wp_tbL, ↓wp_jn, q_okT, q_okA, q_gI, q_gL, q_gR, q_sI, q_sL, q_sR, q_SI, q_SL, q_SR, q_IL, q_IR, q_LI, q_LR, q_RI, q_RL, List.contains_cons, List.contains_nil, Nat.reduceBEq, Nat.reduceEqDiff, beq_self_eq_true, Bool.or_false, Bool.false_or, Bool.true_or, Bool.or_true, Bool.and_true, Bool.true_and, Bool.false_and, Bool.and_false, if_true, if_false, Bool.false_eq_true, true_and, and_true, false_and, and_false, and_self, not_true, not_false_iff, reduceCtorEq, forall_const, false_imp_iff, true_imp_iff, true_or, or_true, false_or, or_false, l.r0_0, l.r0_1, l.r0_2, l.r0_3, l.r0_4, l.r0_5, l.r1_1, l.r1_2, l.r1_4, l.r1_6, l.r1_7, l.r1_8, l.r8_0, l.r8_3, l.r8_4, l.r8_5, l.r8_6, l.r8_7, l.r8_8, l.r8_9, l.r9_1, l.r9_2, l.r9_3, l.r9_4, l.r9_9, l.r21_0, l.r21_1, l.r21_3, l.r21_4, l.r21_5, l.r21_6, l.r21_7, l.r21_8, l.r28_3, l.r28_4, l.r28_5, l.r28_6, l.r28_7, l.r28_9, l.r35_0, l.r35_1, l.r35_2, l.r35_3, l.r35_4, l.r35_5, l.r36_4, l.r38_4, l.r40_4, l.r42_4, l.r44_4, l.r46_4, l.s0, l.s1, l.s2, l.s3, l.s4, l.s5, l.s6, l.s7, l.s8, l.s9, l.s10, l.s11, l.s12, l.s13, l.s14, l.s15, l.s16, l.s17, l.s18, l.s19, l.s20, l.s21, l.s22, l.s23, l.s24, l.s25, l.s26, l.s27, l.s28, l.s29, l.s30, l.s31, l.s32, l.s33, l.s34, l.s35, l.s36, l.s37, l.s38, l.s39, l.s40, l.s41, l.s42, l.s43, l.s44, l.s45, l.s46, l.s47, l.s48]
            exact ihx
        have l := l1
        have s28 : (hS hh)[28]? = some (10, 16) := l1.s28
        have s33 : (hS hh)[33]? = some (20, 7) := l1.s33
        have r7' : hR hh 28 7 = some 33 := l1.r28_7
        have r5' : hR (wI hh 33 row.length (nI i)) 28 5 = some 31 := l1.r28_5
        have s31 : (hS (wI hh 33 row.length (nI i)))[31]? = some (20, 7) := l1.s31
        have s28' : (hS (wI hh 33 row.length (nI i)))[28]? = some (10, 16) := l1.s28
        have s31' : (hS hh)[31]? = some (20, 7) := l1.s31
        have r5'' : hR hh 28 5 = some 31 := l1.r28_5
        simp (config := {decide := true, maxSteps := 5000000}) (disch := omega) only [↓reduceIte, ↓wp_some, ↓wp_none, wp_ite, ↓wp_cl, ↓wp_rz, ↓wp_nz, ↓wp_nzL, ↓wp_fI, ↓wp_fL, ↓wp_fR, ↓wp_pI, ↓wp_pL, ↓wp_pR, ↓wp_pZ, ↓wp_aI, ↓wp_aL, ↓wp_aR, ↓wp_bI, ↓wp_bL, ↓wp_bR, ↓wp_rO, ↓wp_cO, ↓wp_nO, ↓wp_iO, ↓wp_tbI, ↓wp_tbL, ↓wp_jn, q_okT, q_okA, q_gI, q_gL, q_gR, q_sI, q_sL, q_sR, q_SI, q_SL, q_SR, q_IL, q_IR, q_LI, q_LR, q_RI, q_RL, List.contains_cons, List.contains_nil, Nat.reduceBEq, Nat.reduceEqDiff, beq_self_eq_true, Bool.or_false, Bool.false_or, Bool.true_or, Bool.or_true, Bool.and_true, Bool.true_and, Bool.false_and, Bool.and_false, if_true, if_false, Bool.false_eq_true, true_and, and_true, false_and, and_false, and_self, not_true, not_false_iff, reduceCtorEq, forall_const, false_imp_iff, true_imp_iff, true_or, or_true, false_or, or_false, e0, li, c7, bt, s28, s33, s31', r7', r5'', cr, wp_use tbh, i31, ci, er, bo, ev, nI_neg, dle, decide_false, Bool.not_false]
        refine wp_mono go ?_
        rintro _ h3 ⟨S3, ob3⟩
        rw [ei]
        exact ih2 _ _ ⟨rfl, S3.pre, ob3⟩
