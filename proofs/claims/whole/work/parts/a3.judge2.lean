/-! the call judge: the reference -/
theorem j_fin {h w : AH} {P : Nat → Prog} (mx : RMx h w P) (n0 : WN w) (W : WB w) (M : WM w) (X : WWo w) {x y D n : Nat} (hx : x < 1440) (hy : y ≤ 48) (hD : D < 2 ^ 31) {L : List Nat} (hq : rdg (nW w) 7 D 0 = some L) (hn : L.length = n) : wp (lp (fun _ _ _ _ => none) (fun (L98 : Int32 → Int32 → Int32 → AH → Option (Int32 × AH)) (x7 : Int32) (x8 : Int32) (x9 : Int32) (h10 : AH) =>
          if x9 < 0 then
            rO h10 [12] (some 49) <| cl (f_X12_begin (some 49) (nI x) (nI y) h10) fun _ h11 =>
            fI h11 [12] (some 49) 77 fun v12 =>
            fI h11 [12] (some 49) 78 fun v13 =>
            lp (fun _ _ _ _ _ => none) (fun (L151 : Int32 → Int32 → Int32 → Int32 → AH → Option (Int32 × AH)) (x14 : Int32) (x15 : Int32) (x16 : Int32) (x17 : Int32) (h18 : AH) =>
              if x14 ≤ x17 then
                fI h18 [12] (some 49) 77 fun v19 =>
                cl (f_X12_hoursFor x15 v19 h18) fun v21 h20 =>
                fI h20 [12] (some 49) 78 fun v22 =>
                jn (fun (x23 : Int32) =>
                  some (x23, h20)) fun j231 =>
                if (nI y) < ((x16 + v21) - v22) then
                  j231 (-2 : Int32)
                else
                  j231 ((x16 + v21) - v22)
              else
                fR h18 [12] (some 49) 69 fun v24 =>
                aI h18 20 v24 x17 fun v25 =>
                rO h18 [12] (some 49) <| cl (f_X12_hourBehind (some 49) x15 x16 v25 h18) fun v27 h26 =>
                fR h26 [12] (some 49) 66 fun v28 =>
                fR h26 [12] (some 49) 69 fun v29 =>
                aI h26 20 v29 x17 fun v30 =>
                aI h26 20 v28 v30 fun v31 =>
                rO h26 [12] (some 49) <| cl (f_X12_liesNow (some 49) v31 h26) fun v33 h32 =>
                L151 x14 v33 v27 (x17 + 1) h32) lpN x7 v12 v13 (0 : Int32) h11
          else
            fR h10 [12] (some 49) 69 fun v34 =>
            nz (10 : Int32) <|
            bI h10 20 v34 x9 ((x8 - x8 / (10 : Int32) * (10 : Int32)) - (1 : Int32)) fun h35 =>
            nz (10 : Int32) <|
            L98 x7 (x8 / (10 : Int32)) (x9 + (-1)) h35) lpN (nI n) (nI D) (nI n - (1 : Int32)) h) (fun r h' => r = (if hrsL (told_w w (x / 24) (x % 24) y) L L.length (x / 24) 0 ≤ y then nI (hrsL (told_w w (x / 24) (x % 24) y) L L.length (x / 24) 0) else -2) ∧ Sv h h') := by
  obtain ⟨l7, lW, -, dg⟩ := rdg_ok 7 D 0 hq
  have o := told_ok n0 W M X (home := x / 24) (s := x % 24) (l := y) (by omega) (Nat.mod_lt _ (by decide)) hy
  have hw := n0.w7
  have hb := n0.n150
  have d1 := div24 x hx
  have d2 := mod24b x hx
  rw [d1] at d2
  subst hn
  refine wp_d4 L.length (fun j x7 x8 x9 hh => x7 = nI L.length ∧ x9 = nI j - 1 ∧ j ≤ L.length ∧ x8 = nI (D / 10 ^ (L.length - j)) ∧ Sv h hh ∧ ∀ k, j ≤ k → k < L.length → hI hh 95 k = nI (L.getD (L.length - 1 - k) 0)) ⟨rfl, rfl, Nat.le_refl _, by rw [Nat.sub_self, Nat.pow_zero, Nat.div_one], Sv.refl h, fun k h1 h2 => absurd h1 (by omega)⟩ (by omega) ?_ ?_
  · rintro G x7 x8 x9 hh ⟨rfl, rfl, -, rfl, sv, e95⟩
    have nn : nI 0 - 1 < 0 := by decide
    have l := (mx.sv sv).1.1
    have sv2 := ((sv.wI 49 77 (nI (x / 24)) (by omega) rfl).wI 49 78 (nI (x % 24)) (by omega) rfl).wI 49 79 (nI y) (by omega) rfl
    have e77 : hI (wI (wI (wI hh 49 77 (nI (x / 24))) 49 78 (nI (x % 24))) 49 79 (nI y)) 49 77 = nI (x / 24) := rfl
    have e78 : hI (wI (wI (wI hh 49 77 (nI (x / 24))) 49 78 (nI (x % 24))) 49 79 (nI y)) 49 78 = nI (x % 24) := rfl
    have e95' : ∀ k, k < L.length → hI (wI (wI (wI hh 49 77 (nI (x / 24))) 49 78 (nI (x % 24))) 49 79 (nI y)) 95 k = nI (L.getD (L.length - 1 - k) 0) := fun k hk => e95 k (by omega) hk
    unfold f_X12_begin
    simp (config := {decide := true, maxSteps := 5000000}) (disch := omega) only [↓reduceIte, ↓wp_some, ↓wp_none, wp_ite, ↓wp_cl, ↓wp_rz, ↓wp_nz, ↓wp_nzL, ↓wp_fI, ↓wp_fL, ↓wp_fR, ↓wp_pI, ↓wp_pL, ↓wp_pR, ↓wp_pZ, ↓wp_aI, ↓wp_aL, ↓wp_aR, ↓wp_bI, ↓wp_bL, ↓wp_bR, ↓wp_rO, ↓wp_cO, ↓wp_nO, ↓wp_iO, ↓wp_tbI, ↓wp_tbL, ↓wp_jn, q_okT, q_okA, q_gI, q_gL, q_gR, q_sI, q_sL, q_sR, q_SI, q_SL, q_SR, q_IL, q_IR, q_LI, q_LR, q_RI, q_RL, List.contains_cons, List.contains_nil, Nat.reduceBEq, Nat.reduceEqDiff, beq_self_eq_true, Bool.or_false, Bool.false_or, Bool.true_or, Bool.or_true, Bool.and_true, Bool.true_and, Bool.false_and, Bool.and_false, if_true, if_false, Bool.false_eq_true, true_and, and_true, false_and, and_false, and_self, not_true, not_false_iff, reduceCtorEq, forall_const, false_imp_iff, true_imp_iff, true_or, or_true, false_or, or_false, l.r49_2, l.r49_4, l.r49_5, l.r49_6, l.r49_7, l.r49_8, l.r49_9, l.r49_10, l.r49_12, l.r49_14, l.r49_15, l.r49_16, l.r49_18, l.r49_19, l.r49_20, l.r49_21, l.r49_22, l.r49_23, l.r49_24, l.r49_34, l.r49_35, l.r49_36, l.r49_37, l.r49_38, l.r49_39, l.r49_40, l.r49_41, l.r49_42, l.r49_43, l.r49_44, l.r49_46, l.r49_47, l.r49_48, l.r49_49, l.r49_50, l.r49_51, l.r49_59, l.r49_60, l.r49_61, l.r49_62, l.r49_63, l.r49_64, l.r49_66, l.r49_67, l.r49_68, l.r49_69, l.r49_70, l.r49_74, l.r49_80, l.r49_81, l.r49_82, l.r49_83, l.r49_85, l.r49_86, l.r49_87, l.r49_88, l.r49_89, l.s49, l.s50, l.s51, l.s52, l.s53, l.s54, l.s55, l.s56, l.s57, l.s58, l.s59, l.s60, l.s61, l.s62, l.s63, l.s64, l.s65, l.s66, l.s67, l.s68, l.s69, l.s70, l.s71, l.s72, l.s73, l.s74, l.s75, l.s76, l.s77, l.s78, l.s79, l.s80, l.s81, l.s82, l.s83, l.s84, l.s85, l.s86, l.s87, l.s88, l.s89, l.s90, l.s91, l.s92, l.s93, l.s94, l.s95, l.s96, l.s97, l.s98, l.s99, l.s100, l.s101, l.s102, l.s103, l.s104, l.s105, l.s106, nn, n24, ne_eq, d1, d2]
    generalize wI (wI (wI hh 49 77 (nI (x / 24))) 49 78 (nI (x % 24))) 49 79 (nI y) = h1 at sv2 e77 e78 e95' ⊢
    have m1 := (mx.sv sv2).1
    have l1 := m1.1
    rw [e77, e78]
    refine wp_g5 L.length (fun k x14 x15 x16 x17 h2 => x14 = nI L.length ∧ x17 = nI k ∧ h2 = h1 ∧ k ≤ L.length ∧ ∃ c t : Nat, x15 = nI c ∧ x16 = nI (x % 24 + t) ∧ c < 60 ∧ t ≤ 30 * k ∧ hrsL (told_w w (x / 24) (x % 24) y) L L.length (x / 24) 0 = hrsL (told_w w (x / 24) (x % 24) y) L (L.length - k) c t) ⟨rfl, rfl, rfl, Nat.zero_le _, x / 24, 0, rfl, rfl, by omega, by omega, rfl⟩ (by omega) ?_ ?_
    · rintro K x14 x15 x16 x17 h2 ⟨rfl, rfl, rfl, -, c, t, rfl, rfl, hc, ht, eh⟩
      have l := l1
      have q := far_hb c hc (x / 24) (by omega)
      have h7 := hbN_le c hc (x / 24) (by omega)
      have ea : nI (x % 24 + t) + nI (hbN c (x / 24)) - nI (x % 24) = nI (t + hbN c (x / 24)) := by rw [nI_add, nI_sub (by omega)]; congr 1; omega
      have eh2 : hrsL (told_w w (x / 24) (x % 24) y) L L.length (x / 24) 0 = t + hbN c (x / 24) := by rw [eh, Nat.sub_self]; rfl
      rw [eh2]
      have lt : (nI y < nI (t + hbN c (x / 24))) = (y < t + hbN c (x / 24)) := propext (nI_ltI (by omega) (by omega))
      by_cases c1 : t + hbN c (x / 24) ≤ y
      · have c2 : ¬ y < t + hbN c (x / 24) := by omega
        simp (config := {decide := true, maxSteps := 5000000}) (disch := omega) only [↓reduceIte, ↓wp_some, ↓wp_none, wp_ite, ↓wp_cl, ↓wp_rz, ↓wp_nz, ↓wp_nzL, ↓wp_fI, ↓wp_fL, ↓wp_fR, ↓wp_pI, ↓wp_pL, ↓wp_pR, ↓wp_pZ, ↓wp_aI, ↓wp_aL, ↓wp_aR, ↓wp_bI, ↓wp_bL, ↓wp_bR, ↓wp_rO, ↓wp_cO, ↓wp_nO, ↓wp_iO, ↓wp_tbI, ↓wp_tbL, ↓wp_jn, q_okT, q_okA, q_gI, q_gL, q_gR, q_sI, q_sL, q_sR, q_SI, q_SL, q_SR, q_II, q_IL, q_IR, q_LI, q_LL, q_LR, q_RI, q_RL, q_RR, List.contains_cons, List.contains_nil, Nat.reduceBEq, Nat.reduceEqDiff, beq_self_eq_true, Bool.or_false, Bool.false_or, Bool.true_or, Bool.or_true, Bool.and_true, Bool.true_and, Bool.false_and, Bool.and_false, if_true, if_false, Bool.false_eq_true, true_and, and_true, false_and, and_false, and_self, not_true, not_false_iff, reduceCtorEq, forall_const, false_imp_iff, true_imp_iff, true_or, or_true, false_or, or_false, l.r49_2, l.r49_4, l.r49_5, l.r49_6, l.r49_7, l.r49_8, l.r49_9, l.r49_10, l.r49_12, l.r49_14, l.r49_15, l.r49_16, l.r49_18, l.r49_19, l.r49_20, l.r49_21, l.r49_22, l.r49_23, l.r49_24, l.r49_34, l.r49_35, l.r49_36, l.r49_37, l.r49_38, l.r49_39, l.r49_40, l.r49_41, l.r49_42, l.r49_43, l.r49_44, l.r49_46, l.r49_47, l.r49_48, l.r49_49, l.r49_50, l.r49_51, l.r49_59, l.r49_60, l.r49_61, l.r49_62, l.r49_63, l.r49_64, l.r49_66, l.r49_67, l.r49_68, l.r49_69, l.r49_70, l.r49_74, l.r49_80, l.r49_81, l.r49_82, l.r49_83, l.r49_85, l.r49_86, l.r49_87, l.r49_88, l.r49_89, l.s49, l.s50, l.s51, l.s52, l.s53, l.s54, l.s55, l.s56, l.s57, l.s58, l.s59, l.s60, l.s61, l.s62, l.s63, l.s64, l.s65, l.s66, l.s67, l.s68, l.s69, l.s70, l.s71, l.s72, l.s73, l.s74, l.s75, l.s76, l.s77, l.s78, l.s79, l.s80, l.s81, l.s82, l.s83, l.s84, l.s85, l.s86, l.s87, l.s88, l.s89, l.s90, l.s91, l.s92, l.s93, l.s94, l.s95, l.s96, l.s97, l.s98, l.s99, l.s100, l.s101, l.s102, l.s103, l.s104, l.s105, l.s106, Int32.le_refl, e77, e78, wp_use (t_X12_hoursFor _ _ _), q, ea, lt, c1, c2]
        exact sv2
      · have c2 : y < t + hbN c (x / 24) := by omega
        simp (config := {decide := true, maxSteps := 5000000}) (disch := omega) only [↓reduceIte, ↓wp_some, ↓wp_none, wp_ite, ↓wp_cl, ↓wp_rz, ↓wp_nz, ↓wp_nzL, ↓wp_fI, ↓wp_fL, ↓wp_fR, ↓wp_pI, ↓wp_pL, ↓wp_pR, ↓wp_pZ, ↓wp_aI, ↓wp_aL, ↓wp_aR, ↓wp_bI, ↓wp_bL, ↓wp_bR, ↓wp_rO, ↓wp_cO, ↓wp_nO, ↓wp_iO, ↓wp_tbI, ↓wp_tbL, ↓wp_jn, q_okT, q_okA, q_gI, q_gL, q_gR, q_sI, q_sL, q_sR, q_SI, q_SL, q_SR, q_II, q_IL, q_IR, q_LI, q_LL, q_LR, q_RI, q_RL, q_RR, List.contains_cons, List.contains_nil, Nat.reduceBEq, Nat.reduceEqDiff, beq_self_eq_true, Bool.or_false, Bool.false_or, Bool.true_or, Bool.or_true, Bool.and_true, Bool.true_and, Bool.false_and, Bool.and_false, if_true, if_false, Bool.false_eq_true, true_and, and_true, false_and, and_false, and_self, not_true, not_false_iff, reduceCtorEq, forall_const, false_imp_iff, true_imp_iff, true_or, or_true, false_or, or_false, l.r49_2, l.r49_4, l.r49_5, l.r49_6, l.r49_7, l.r49_8, l.r49_9, l.r49_10, l.r49_12, l.r49_14, l.r49_15, l.r49_16, l.r49_18, l.r49_19, l.r49_20, l.r49_21, l.r49_22, l.r49_23, l.r49_24, l.r49_34, l.r49_35, l.r49_36, l.r49_37, l.r49_38, l.r49_39, l.r49_40, l.r49_41, l.r49_42, l.r49_43, l.r49_44, l.r49_46, l.r49_47, l.r49_48, l.r49_49, l.r49_50, l.r49_51, l.r49_59, l.r49_60, l.r49_61, l.r49_62, l.r49_63, l.r49_64, l.r49_66, l.r49_67, l.r49_68, l.r49_69, l.r49_70, l.r49_74, l.r49_80, l.r49_81, l.r49_82, l.r49_83, l.r49_85, l.r49_86, l.r49_87, l.r49_88, l.r49_89, l.s49, l.s50, l.s51, l.s52, l.s53, l.s54, l.s55, l.s56, l.s57, l.s58, l.s59, l.s60, l.s61, l.s62, l.s63, l.s64, l.s65, l.s66, l.s67, l.s68, l.s69, l.s70, l.s71, l.s72, l.s73, l.s74, l.s75, l.s76, l.s77, l.s78, l.s79, l.s80, l.s81, l.s82, l.s83, l.s84, l.s85, l.s86, l.s87, l.s88, l.s89, l.s90, l.s91, l.s92, l.s93, l.s94, l.s95, l.s96, l.s97, l.s98, l.s99, l.s100, l.s101, l.s102, l.s103, l.s104, l.s105, l.s106, Int32.le_refl, e77, e78, wp_use (t_X12_hoursFor _ _ _), q, ea, lt, c1, c2]
        exact sv2
    · rintro K k x14 x15 x16 x17 h2 hk ⟨rfl, rfl, rfl, hkl, c, t, rfl, rfl, hc, ht, eh⟩ ih
      have l := l1
      have pl : L.getD (L.length - 1 - k) 0 < nW w := lW _ (getD_in (by omega))
      have lk : ¬ nI L.length ≤ nI k := by rw [nI_leI (by omega) (by omega)]; omega
      have ck : (nI k).toNatClampNeg = k := nI_clamp (by omega)
      have cp : (nI (L.getD (L.length - 1 - k) 0)).toNatClampNeg = L.getD (L.length - 1 - k) 0 := nI_clamp (by omega)
      have ek : nI k + 1 = nI (k + 1) := nI_add _ 1
      have tbh := t_X12_hourBehind m1 n0 W M X pl o hc (show t ≤ 250 by omega)
      obtain ⟨b, b1, b3, b2, e, -⟩ := wfactR n0 W M X pl (x / 24) (x % 24) y
      have ln := t_X12_liesNow m1 n0 W b1 b3
      rw [e] at ln
      have i92 : hI h2 92 (L.getD (L.length - 1 - k) 0) = nI b := by rw [m1.i92]; exact b2
      have st : hrsL (told_w w (x / 24) (x % 24) y) L (L.length - k) c t = hrsL (told_w w (x / 24) (x % 24) y) L (L.length - (k + 1)) (tC (told_w w (x / 24) (x % 24) y) (L.getD (L.length - 1 - k) 0)) (doneN (told_w w (x / 24) (x % 24) y) (L.getD (L.length - 1 - k) 0) c t) := by
        obtain ⟨q, hq⟩ : ∃ q, L.length - k = q + 1 := ⟨L.length - k - 1, by omega⟩
        rw [hq, show L.length - (k + 1) = q by omega, show L.length - 1 - k = q by omega]; rfl
      have ih := ih _ _ _ _ h2 ⟨rfl, rfl, rfl, by omega, tC (told_w w (x / 24) (x % 24) y) (L.getD (L.length - 1 - k) 0), doneN (told_w w (x / 24) (x % 24) y) (L.getD (L.length - 1 - k) 0) c t, rfl, rfl, (o.2.2.2.2 _ pl).1, by have := doneN_30 o (t := t) pl hc; omega, eh.trans st⟩
      simp (config := {decide := true, maxSteps := 5000000}) (disch := omega) only [↓reduceIte, ↓wp_some, ↓wp_none, wp_ite, ↓wp_cl, ↓wp_rz, ↓wp_nz, ↓wp_nzL, ↓wp_fI, ↓wp_fL, ↓wp_fR, ↓wp_pI, ↓wp_pL, ↓wp_pR, ↓wp_pZ, ↓wp_aI, ↓wp_aL, ↓wp_aR, ↓wp_bI, ↓wp_bL, ↓wp_bR, ↓wp_rO, ↓wp_cO, ↓wp_nO, ↓wp_iO, ↓wp_tbI, ↓wp_tbL, ↓wp_jn, q_okT, q_okA, q_gI, q_gL, q_gR, q_sI, q_sL, q_sR, q_SI, q_SL, q_SR, q_IL, q_IR, q_LI, q_LR, q_RI, q_RL, List.contains_cons, List.contains_nil, Nat.reduceBEq, Nat.reduceEqDiff, beq_self_eq_true, Bool.or_false, Bool.false_or, Bool.true_or, Bool.or_true, Bool.and_true, Bool.true_and, Bool.false_and, Bool.and_false, if_true, if_false, Bool.false_eq_true, true_and, and_true, false_and, and_false, and_self, not_true, not_false_iff, reduceCtorEq, forall_const, false_imp_iff, true_imp_iff, true_or, or_true, false_or, or_false, l.r49_2, l.r49_4, l.r49_5, l.r49_6, l.r49_7, l.r49_8, l.r49_9, l.r49_10, l.r49_12, l.r49_14, l.r49_15, l.r49_16, l.r49_18, l.r49_19, l.r49_20, l.r49_21, l.r49_22, l.r49_23, l.r49_24, l.r49_34, l.r49_35, l.r49_36, l.r49_37, l.r49_38, l.r49_39, l.r49_40, l.r49_41, l.r49_42, l.r49_43, l.r49_44, l.r49_46, l.r49_47, l.r49_48, l.r49_49, l.r49_50, l.r49_51, l.r49_59, l.r49_60, l.r49_61, l.r49_62, l.r49_63, l.r49_64, l.r49_66, l.r49_67, l.r49_68, l.r49_69, l.r49_70, l.r49_74, l.r49_80, l.r49_81, l.r49_82, l.r49_83, l.r49_85, l.r49_86, l.r49_87, l.r49_88, l.r49_89, l.s49, l.s50, l.s51, l.s52, l.s53, l.s54, l.s55, l.s56, l.s57, l.s58, l.s59, l.s60, l.s61, l.s62, l.s63, l.s64, l.s65, l.s66, l.s67, l.s68, l.s69, l.s70, l.s71, l.s72, l.s73, l.s74, l.s75, l.s76, l.s77, l.s78, l.s79, l.s80, l.s81, l.s82, l.s83, l.s84, l.s85, l.s86, l.s87, l.s88, l.s89, l.s90, l.s91, l.s92, l.s93, l.s94, l.s95, l.s96, l.s97, l.s98, l.s99, l.s100, l.s101, l.s102, l.s103, l.s104, l.s105, l.s106, lk, ck, e95' k hk, cp, wp_use tbh, i92, wp_use ln, ek, nI_neg, dle, decide_false, Bool.not_false]
      exact ih
  · rintro G j x7 x8 x9 hh hj ⟨rfl, rfl, hjl, rfl, sv, e95⟩ ih
    have l := (mx.sv sv).1.1
    have em : nI (j + 1) - 1 = nI j := nI_pred j
    have nn : ¬ nI j < 0 := nI_pos (by omega)
    have cj : (nI j).toNatClampNeg = j := nI_clamp (by omega)
    have dq : nI j + -1 = nI j - 1 := am1 _
    have n100 : ¬ (10 : Int32) = 0 := by decide
    have Dl : D / 10 ^ (L.length - (j + 1)) < 2 ^ 31 := Nat.lt_of_le_of_lt (Nat.div_le_self _ _) hD
    have dv := nI_div10 Dl
    have md := nI_mod10 Dl
    have dgj := dg (L.length - (j + 1)) (by omega)
    have e2 : D / 10 ^ (L.length - (j + 1)) / 10 = D / 10 ^ (L.length - j) := by
      rw [Nat.div_div_eq_div_mul, ← Nat.pow_succ, show (L.length - (j + 1)).succ = L.length - j by omega]
    rw [e2] at dv md
    have m10 : (D / 10 ^ (L.length - (j + 1))) % 10 < 10 := Nat.mod_lt _ (by decide)
    have emm : nI ((D / 10 ^ (L.length - (j + 1))) % 10) - 1 = nI (L.getD (L.length - (j + 1)) 0) := by
      rw [dgj.1]
      obtain ⟨q, hq⟩ : ∃ q, (D / 10 ^ (L.length - (j + 1))) % 10 = q + 1 := ⟨(D / 10 ^ (L.length - (j + 1))) % 10 - 1, by have := dgj.2; omega⟩
      rw [hq, nI_pred]; rfl
    have ih := ih _ _ _ (wI hh 95 j (nI (L.getD (L.length - (j + 1)) 0))) ⟨rfl, rfl, by omega, rfl, sv.wI 95 _ _ (by omega) rfl, fun k h1 h2 => by
      rw [q_II]
      by_cases y : k = j
      · subst y; rw [if_pos ⟨rfl, rfl⟩, show L.length - 1 - k = L.length - (k + 1) by omega]
      · rw [if_neg (fun x => y x.2)]; exact e95 k (by omega) h2⟩
    simp (config := {decide := true, maxSteps := 5000000}) (disch := omega) only [↓reduceIte, ↓wp_some, ↓wp_none, wp_ite, ↓wp_cl, ↓wp_rz, ↓wp_nz, ↓wp_nzL, ↓wp_fI, ↓wp_fL, ↓wp_fR, ↓wp_pI, ↓wp_pL, ↓wp_pR, ↓wp_pZ, ↓wp_aI, ↓wp_aL, ↓wp_aR, ↓wp_bI, ↓wp_bL, ↓wp_bR, ↓wp_rO, ↓wp_cO, ↓wp_nO, ↓wp_iO, ↓wp_tbI, ↓wp_tbL, ↓wp_jn, q_okT, q_okA, q_gI, q_gL, q_gR, q_sI, q_sL, q_sR, q_SI, q_SL, q_SR, q_IL, q_IR, q_LI, q_LR, q_RI, q_RL, List.contains_cons, List.contains_nil, Nat.reduceBEq, Nat.reduceEqDiff, beq_self_eq_true, Bool.or_false, Bool.false_or, Bool.true_or, Bool.or_true, Bool.and_true, Bool.true_and, Bool.false_and, Bool.and_false, if_true, if_false, Bool.false_eq_true, true_and, and_true, false_and, and_false, and_self, not_true, not_false_iff, reduceCtorEq, forall_const, false_imp_iff, true_imp_iff, true_or, or_true, false_or, or_false, l.r49_2, l.r49_4, l.r49_5, l.r49_6, l.r49_7, l.r49_8, l.r49_9, l.r49_10, l.r49_12, l.r49_14, l.r49_15, l.r49_16, l.r49_18, l.r49_19, l.r49_20, l.r49_21, l.r49_22, l.r49_23, l.r49_24, l.r49_34, l.r49_35, l.r49_36, l.r49_37, l.r49_38, l.r49_39, l.r49_40, l.r49_41, l.r49_42, l.r49_43, l.r49_44, l.r49_46, l.r49_47, l.r49_48, l.r49_49, l.r49_50, l.r49_51, l.r49_59, l.r49_60, l.r49_61, l.r49_62, l.r49_63, l.r49_64, l.r49_66, l.r49_67, l.r49_68, l.r49_69, l.r49_70, l.r49_74, l.r49_80, l.r49_81, l.r49_82, l.r49_83, l.r49_85, l.r49_86, l.r49_87, l.r49_88, l.r49_89, l.s49, l.s50, l.s51, l.s52, l.s53, l.s54, l.s55, l.s56, l.s57, l.s58, l.s59, l.s60, l.s61, l.s62, l.s63, l.s64, l.s65, l.s66, l.s67, l.s68, l.s69, l.s70, l.s71, l.s72, l.s73, l.s74, l.s75, l.s76, l.s77, l.s78, l.s79, l.s80, l.s81, l.s82, l.s83, l.s84, l.s85, l.s86, l.s87, l.s88, l.s89, l.s90, l.s91, l.s92, l.s93, l.s94, l.s95, l.s96, l.s97, l.s98, l.s99, l.s100, l.s101, l.s102, l.s103, l.s104, l.s105, l.s106, em, nn, cj, dq, n100, ne_eq, dv, md, emm, nI_neg, dle, decide_false, Bool.not_false]
    exact ih
theorem r_judge {h w : AH} {P : Nat → Prog} (mx : RMx h w P) (n : WN w) (W : WB w) (M : WM w) (X : WWo w) (a g d : Int32) : wp (f_X12_judge (some 49) a g d h) (fun r h' => r = s_judge w a g d ∧ Sv h h') := by
  have m := mx.1
  have l := m.1
  have hw := n.w7
  have hs := Sv.refl h
  unfold f_X12_judge
  by_cases z : isWalk_ a g = true
  · obtain ⟨x, y, hx, hy1, hy, rfl, rfl⟩ := isWalk_ex z
    have cx : (nI x).toNatClampNeg = x := nI_clamp (by omega)
    have cy : (nI y).toNatClampNeg = y := nI_clamp (by omega)
    by_cases d1 : 1 ≤ d
    · have d0 : 0 ≤ d := by grind
      obtain ⟨D, hD, rfl⟩ : ∃ D : Nat, D < 2 ^ 31 ∧ d = nI D := ⟨d.toNatClampNeg, cl_31 d, nI_self d0⟩
      have cD : (nI D).toNatClampNeg = D := nI_clamp hD
      have D1 : D ≠ 0 := fun e => by rw [e] at d1; exact absurd d1 (by decide)
      simp (config := {decide := true, maxSteps := 5000000}) (disch := omega) only [↓reduceIte, ↓wp_some, ↓wp_none, wp_ite, ↓wp_cl, ↓wp_rz, ↓wp_nz, ↓wp_nzL, ↓wp_fI, ↓wp_fL, ↓wp_fR, ↓wp_pI, ↓wp_pL, ↓wp_pR, ↓wp_pZ, ↓wp_aI, ↓wp_aL, ↓wp_aR, ↓wp_bI, ↓wp_bL, ↓wp_bR, ↓wp_rO, ↓wp_cO, ↓wp_nO, ↓wp_iO, ↓wp_tbI, ↓wp_tbL, ↓wp_jn, q_okT, q_okA, q_gI, q_gL, q_gR, q_sI, q_sL, q_sR, q_SI, q_SL, q_SR, q_IL, q_IR, q_LI, q_LR, q_RI, q_RL, List.contains_cons, List.contains_nil, Nat.reduceBEq, Nat.reduceEqDiff, beq_self_eq_true, Bool.or_false, Bool.false_or, Bool.true_or, Bool.or_true, Bool.and_true, Bool.true_and, Bool.false_and, Bool.and_false, if_true, if_false, Bool.false_eq_true, true_and, and_true, false_and, and_false, and_self, not_true, not_false_iff, reduceCtorEq, forall_const, false_imp_iff, true_imp_iff, true_or, or_true, false_or, or_false, l.r49_2, l.r49_4, l.r49_5, l.r49_6, l.r49_7, l.r49_8, l.r49_9, l.r49_10, l.r49_12, l.r49_14, l.r49_15, l.r49_16, l.r49_18, l.r49_19, l.r49_20, l.r49_21, l.r49_22, l.r49_23, l.r49_24, l.r49_34, l.r49_35, l.r49_36, l.r49_37, l.r49_38, l.r49_39, l.r49_40, l.r49_41, l.r49_42, l.r49_43, l.r49_44, l.r49_46, l.r49_47, l.r49_48, l.r49_49, l.r49_50, l.r49_51, l.r49_59, l.r49_60, l.r49_61, l.r49_62, l.r49_63, l.r49_64, l.r49_66, l.r49_67, l.r49_68, l.r49_69, l.r49_70, l.r49_74, l.r49_80, l.r49_81, l.r49_82, l.r49_83, l.r49_85, l.r49_86, l.r49_87, l.r49_88, l.r49_89, l.s49, l.s50, l.s51, l.s52, l.s53, l.s54, l.s55, l.s56, l.s57, l.s58, l.s59, l.s60, l.s61, l.s62, l.s63, l.s64, l.s65, l.s66, l.s67, l.s68, l.s69, l.s70, l.s71, l.s72, l.s73, l.s74, l.s75, l.s76, l.s77, l.s78, l.s79, l.s80, l.s81, l.s82, l.s83, l.s84, l.s85, l.s86, l.s87, l.s88, l.s89, l.s90, l.s91, l.s92, l.s93, l.s94, l.s95, l.s96, l.s97, l.s98, l.s99, l.s100, l.s101, l.s102, l.s103, l.s104, l.s105, l.s106, wp_use (t_X12_isWalk m _ _), z, d1, cx, cy, cD]
      have Vn : rdg (nW w) 7 D 0 = none → s_judge w (nI x) (nI y) (nI D) = -1 := fun e => by
        unfold s_judge
        rw [if_pos ⟨z, d1⟩, cD, e]
      have Vs : ∀ L, rdg (nW w) 7 D 0 = some L → s_judge w (nI x) (nI y) (nI D) = if hrsL (told_w w (x / 24) (x % 24) y) L L.length (x / 24) 0 ≤ y then nI (hrsL (told_w w (x / 24) (x % 24) y) L L.length (x / 24) 0) else -2 := fun L e => by
        unfold s_judge
        rw [if_pos ⟨z, d1⟩, cD, e, cx, cy]
      generalize s_judge w (nI x) (nI y) (nI D) = V at Vn Vs ⊢
      have inW : ∀ p : Nat, p < 10 → (0 ≤ nI p ∧ nI p ≤ nI (nW w) - 1) = (p + 1 ≤ nW w) := fun p hp => by
        refine propext ⟨fun ⟨_, q⟩ => ?_, fun q => ⟨nI_pos' (by omega), ?_⟩⟩
        · by_cases w0 : nW w = 0
          · rw [w0] at q
            have : nI 0 - 1 < 0 := by decide
            have := nI_pos' (n := p) (by omega)
            grind
          · obtain ⟨q', hq'⟩ : ∃ q', nW w = q' + 1 := ⟨nW w - 1, by omega⟩
            rw [hq', nI_pred, nI_leI (by omega) (by omega)] at q
            omega
        · obtain ⟨q', hq'⟩ : ∃ q', nW w = q' + 1 := ⟨nW w - 1, by omega⟩
          rw [hq', nI_pred, nI_leI (by omega) (by omega)]
          omega
      have n100 : ¬ (10 : Int32) = 0 := by decide
      have inN : ¬ (0 ≤ nI 0 - 1 ∧ nI 0 - 1 ≤ nI (nW w) - 1) := fun q => absurd q.1 (by decide)
      refine wp_g4 7 (fun i x3 x4 x5 hh => x3 = nI i ∧ hh = h ∧ ∃ (u D' : Nat) (L : List Nat), x4 = nI u ∧ x5 = nI D' ∧ u < 128 ∧ D' ≤ D ∧ pc7 u = i ∧ L.length = i ∧ rdg (nW w) 7 D 0 = (rdg (nW w) (7 - i) D' u).map (fun r => L ++ r)) ⟨rfl, rfl, 0, D, [], rfl, rfl, by omega, Nat.le_refl _, by decide, rfl, by cases rdg (nW w) 7 D 0 <;> rfl⟩ (by omega) ?_ ?_
      · rintro G x3 x4 x5 hh ⟨rfl, rfl, u, D', L, rfl, rfl, u1, dl, pu, hl, er⟩
        by_cases z0 : D' = 0
        · subst z0
          rw [rdg_0, Option.map_some, List.append_nil] at er
          have le0 : nI 0 ≤ 0 := by decide
          rw [Vs L er, if_pos le0]
          exact j_fin mx n W M X hx hy hD er hl
        · have le0 : ¬ nI D' ≤ 0 := nI_nle (by omega) (by omega)
          have en : rdg (nW w) 7 D 0 = none := by rw [er, show rdg (nW w) (7 - 7) D' u = none from if_neg z0]; rfl
          rw [Vn en]
          have dv := nI_div10 (D := D') (by omega)
          have md := nI_mod10 (D := D') (by omega)
          have m10 : D' % 10 < 10 := Nat.mod_lt _ (by decide)
          by_cases c1 : D' % 10 = 0
          · rw [c1] at md
            simp (config := {decide := true, maxSteps := 5000000}) (disch := omega) only [↓reduceIte, ↓wp_some, ↓wp_none, wp_ite, ↓wp_cl, ↓wp_rz, ↓wp_nz, ↓wp_nzL, ↓wp_fI, ↓wp_fL, ↓wp_fR, ↓wp_pI, ↓wp_pL, ↓wp_pR, ↓wp_pZ, ↓wp_aI, ↓wp_aL, ↓wp_aR, ↓wp_bI, ↓wp_bL, ↓wp_bR, ↓wp_rO, ↓wp_cO, ↓wp_nO, ↓wp_iO, ↓wp_tbI, ↓wp_tbL, ↓wp_jn, q_okT, q_okA, q_gI, q_gL, q_gR, q_sI, q_sL, q_sR, q_SI, q_SL, q_SR, q_IL, q_IR, q_LI, q_LR, q_RI, q_RL, List.contains_cons, List.contains_nil, Nat.reduceBEq, Nat.reduceEqDiff, beq_self_eq_true, Bool.or_false, Bool.false_or, Bool.true_or, Bool.or_true, Bool.and_true, Bool.true_and, Bool.false_and, Bool.and_false, if_true, if_false, Bool.false_eq_true, true_and, and_true, false_and, and_false, and_self, not_true, not_false_iff, reduceCtorEq, forall_const, false_imp_iff, true_imp_iff, true_or, or_true, false_or, or_false, l.r49_2, l.r49_4, l.r49_5, l.r49_6, l.r49_7, l.r49_8, l.r49_9, l.r49_10, l.r49_12, l.r49_14, l.r49_15, l.r49_16, l.r49_18, l.r49_19, l.r49_20, l.r49_21, l.r49_22, l.r49_23, l.r49_24, l.r49_34, l.r49_35, l.r49_36, l.r49_37, l.r49_38, l.r49_39, l.r49_40, l.r49_41, l.r49_42, l.r49_43, l.r49_44, l.r49_46, l.r49_47, l.r49_48, l.r49_49, l.r49_50, l.r49_51, l.r49_59, l.r49_60, l.r49_61, l.r49_62, l.r49_63, l.r49_64, l.r49_66, l.r49_67, l.r49_68, l.r49_69, l.r49_70, l.r49_74, l.r49_80, l.r49_81, l.r49_82, l.r49_83, l.r49_85, l.r49_86, l.r49_87, l.r49_88, l.r49_89, l.s49, l.s50, l.s51, l.s52, l.s53, l.s54, l.s55, l.s56, l.s57, l.s58, l.s59, l.s60, l.s61, l.s62, l.s63, l.s64, l.s65, l.s66, l.s67, l.s68, l.s69, l.s70, l.s71, l.s72, l.s73, l.s74, l.s75, l.s76, l.s77, l.s78, l.s79, l.s80, l.s81, l.s82, l.s83, l.s84, l.s85, l.s86, l.s87, l.s88, l.s89, l.s90, l.s91, l.s92, l.s93, l.s94, l.s95, l.s96, l.s97, l.s98, l.s99, l.s100, l.s101, l.s102, l.s103, l.s104, l.s105, l.s106, m.i50, m.i51, m.i52, m.i53, m.i54, m.i55, m.i56, m.i57, m.i58, m.i59, m.i60, m.i61, m.i62, m.i63, m.i64, m.i65, m.i66, m.i67, m.i68, m.i69, m.i70, m.i71, m.i80, m.i81, m.i82, m.i83, m.i84, m.i86, m.i87, m.i88, m.i89, m.i90, m.i92, m.i93, m.i94, m.i97, m.i98, m.i102, m.i103, m.i104, m.i105, m.f1, m.f3, m.f11, m.f13, m.f17, m.f25, m.f33, m.f65, m.f75, m.f76, m.f84, le0, n100, ne_eq, dv, md, n.w, wp_use (t_X12_in _ _ _ _), inN]
            exact hs
          · have em : nI (D' % 10) - 1 = nI (D' % 10 - 1) := by
              obtain ⟨q, hq⟩ : ∃ q, D' % 10 = q + 1 := ⟨D' % 10 - 1, by omega⟩
              rw [hq, nI_pred]; rfl
            have iw := inW (D' % 10 - 1) (by omega)
            by_cases c2 : D' % 10 - 1 + 1 ≤ nW w
            · have bt := bit_t u u1 (D' % 10 - 1) (by omega)
              rw [if_pos (pc7_full u u1 pu _ (by omega))] at bt
              simp (config := {decide := true, maxSteps := 5000000}) (disch := omega) only [↓reduceIte, ↓wp_some, ↓wp_none, wp_ite, ↓wp_cl, ↓wp_rz, ↓wp_nz, ↓wp_nzL, ↓wp_fI, ↓wp_fL, ↓wp_fR, ↓wp_pI, ↓wp_pL, ↓wp_pR, ↓wp_pZ, ↓wp_aI, ↓wp_aL, ↓wp_aR, ↓wp_bI, ↓wp_bL, ↓wp_bR, ↓wp_rO, ↓wp_cO, ↓wp_nO, ↓wp_iO, ↓wp_tbI, ↓wp_tbL, ↓wp_jn, q_okT, q_okA, q_gI, q_gL, q_gR, q_sI, q_sL, q_sR, q_SI, q_SL, q_SR, q_IL, q_IR, q_LI, q_LR, q_RI, q_RL, List.contains_cons, List.contains_nil, Nat.reduceBEq, Nat.reduceEqDiff, beq_self_eq_true, Bool.or_false, Bool.false_or, Bool.true_or, Bool.or_true, Bool.and_true, Bool.true_and, Bool.false_and, Bool.and_false, if_true, if_false, Bool.false_eq_true, true_and, and_true, false_and, and_false, and_self, not_true, not_false_iff, reduceCtorEq, forall_const, false_imp_iff, true_imp_iff, true_or, or_true, false_or, or_false, l.r49_2, l.r49_4, l.r49_5, l.r49_6, l.r49_7, l.r49_8, l.r49_9, l.r49_10, l.r49_12, l.r49_14, l.r49_15, l.r49_16, l.r49_18, l.r49_19, l.r49_20, l.r49_21, l.r49_22, l.r49_23, l.r49_24, l.r49_34, l.r49_35, l.r49_36, l.r49_37, l.r49_38, l.r49_39, l.r49_40, l.r49_41, l.r49_42, l.r49_43, l.r49_44, l.r49_46, l.r49_47, l.r49_48, l.r49_49, l.r49_50, l.r49_51, l.r49_59, l.r49_60, l.r49_61, l.r49_62, l.r49_63, l.r49_64, l.r49_66, l.r49_67, l.r49_68, l.r49_69, l.r49_70, l.r49_74, l.r49_80, l.r49_81, l.r49_82, l.r49_83, l.r49_85, l.r49_86, l.r49_87, l.r49_88, l.r49_89, l.s49, l.s50, l.s51, l.s52, l.s53, l.s54, l.s55, l.s56, l.s57, l.s58, l.s59, l.s60, l.s61, l.s62, l.s63, l.s64, l.s65, l.s66, l.s67, l.s68, l.s69, l.s70, l.s71, l.s72, l.s73, l.s74, l.s75, l.s76, l.s77, l.s78, l.s79, l.s80, l.s81, l.s82, l.s83, l.s84, l.s85, l.s86, l.s87, l.s88, l.s89, l.s90, l.s91, l.s92, l.s93, l.s94, l.s95, l.s96, l.s97, l.s98, l.s99, l.s100, l.s101, l.s102, l.s103, l.s104, l.s105, l.s106, m.i50, m.i51, m.i52, m.i53, m.i54, m.i55, m.i56, m.i57, m.i58, m.i59, m.i60, m.i61, m.i62, m.i63, m.i64, m.i65, m.i66, m.i67, m.i68, m.i69, m.i70, m.i71, m.i80, m.i81, m.i82, m.i83, m.i84, m.i86, m.i87, m.i88, m.i89, m.i90, m.i92, m.i93, m.i94, m.i97, m.i98, m.i102, m.i103, m.i104, m.i105, m.f1, m.f3, m.f11, m.f13, m.f17, m.f25, m.f33, m.f65, m.f75, m.f76, m.f84, le0, n100, ne_eq, dv, md, em, n.w, wp_use (t_X12_in _ _ _ _), iw, c2, bt]
              exact hs
            · simp (config := {decide := true, maxSteps := 5000000}) (disch := omega) only [↓reduceIte, ↓wp_some, ↓wp_none, wp_ite, ↓wp_cl, ↓wp_rz, ↓wp_nz, ↓wp_nzL, ↓wp_fI, ↓wp_fL, ↓wp_fR, ↓wp_pI, ↓wp_pL, ↓wp_pR, ↓wp_pZ, ↓wp_aI, ↓wp_aL, ↓wp_aR, ↓wp_bI, ↓wp_bL, ↓wp_bR, ↓wp_rO, ↓wp_cO, ↓wp_nO, ↓wp_iO, ↓wp_tbI, ↓wp_tbL, ↓wp_jn, q_okT, q_okA, q_gI, q_gL, q_gR, q_sI, q_sL, q_sR, q_SI, q_SL, q_SR, q_IL, q_IR, q_LI, q_LR, q_RI, q_RL, List.contains_cons, List.contains_nil, Nat.reduceBEq, Nat.reduceEqDiff, beq_self_eq_true, Bool.or_false, Bool.false_or, Bool.true_or, Bool.or_true, Bool.and_true, Bool.true_and, Bool.false_and, Bool.and_false, if_true, if_false, Bool.false_eq_true, true_and, and_true, false_and, and_false, and_self, not_true, not_false_iff, reduceCtorEq, forall_const, false_imp_iff, true_imp_iff, true_or, or_true, false_or, or_false, l.r49_2, l.r49_4, l.r49_5, l.r49_6, l.r49_7, l.r49_8, l.r49_9, l.r49_10, l.r49_12, l.r49_14, l.r49_15, l.r49_16, l.r49_18, l.r49_19, l.r49_20, l.r49_21, l.r49_22, l.r49_23, l.r49_24, l.r49_34, l.r49_35, l.r49_36, l.r49_37, l.r49_38, l.r49_39, l.r49_40, l.r49_41, l.r49_42, l.r49_43, l.r49_44, l.r49_46, l.r49_47, l.r49_48, l.r49_49, l.r49_50, l.r49_51, l.r49_59, l.r49_60, l.r49_61, l.r49_62, l.r49_63, l.r49_64, l.r49_66, l.r49_67, l.r49_68, l.r49_69, l.r49_70, l.r49_74, l.r49_80, l.r49_81, l.r49_82, l.r49_83, l.r49_85, l.r49_86, l.r49_87, l.r49_88, l.r49_89, l.s49, l.s50, l.s51, l.s52, l.s53, l.s54, l.s55, l.s56, l.s57, l.s58, l.s59, l.s60, l.s61, l.s62, l.s63, l.s64, l.s65, l.s66, l.s67, l.s68, l.s69, l.s70, l.s71, l.s72, l.s73, l.s74, l.s75, l.s76, l.s77, l.s78, l.s79, l.s80, l.s81, l.s82, l.s83, l.s84, l.s85, l.s86, l.s87, l.s88, l.s89, l.s90, l.s91, l.s92, l.s93, l.s94, l.s95, l.s96, l.s97, l.s98, l.s99, l.s100, l.s101, l.s102, l.s103, l.s104, l.s105, l.s106, m.i50, m.i51, m.i52, m.i53, m.i54, m.i55, m.i56, m.i57, m.i58, m.i59, m.i60, m.i61, m.i62, m.i63, m.i64, m.i65, m.i66, m.i67, m.i68, m.i69, m.i70, m.i71, m.i80, m.i81, m.i82, m.i83, m.i84, m.i86, m.i87, m.i88, m.i89, m.i90, m.i92, m.i93, m.i94, m.i97, m.i98, m.i102, m.i103, m.i104, m.i105, m.f1, m.f3, m.f11, m.f13, m.f17, m.f25, m.f33, m.f65, m.f75, m.f76, m.f84, le0, n100, ne_eq, dv, md, em, n.w, wp_use (t_X12_in _ _ _ _), iw, c2]
              exact hs
      · rintro G i x3 x4 x5 hh hi ⟨rfl, rfl, u, D', L, rfl, rfl, u1, dl, pu, hl, er⟩ ih
        obtain ⟨f, hf⟩ : ∃ f, 7 - i = f + 1 := ⟨6 - i, by omega⟩
        have hf2 : 7 - (i + 1) = f := by omega
        by_cases z0 : D' = 0
        · subst z0
          rw [rdg_0, Option.map_some, List.append_nil] at er
          have le0 : nI 0 ≤ 0 := by decide
          rw [Vs L er, if_pos le0]
          exact j_fin mx n W M X hx hy hD er hl
        · have le0 : ¬ nI D' ≤ 0 := nI_nle (by omega) (by omega)
          rw [hf, rdg_s (nW w) f D' u, if_neg z0] at er
          have dv := nI_div10 (D := D') (by omega)
          have md := nI_mod10 (D := D') (by omega)
          have m10 : D' % 10 < 10 := Nat.mod_lt _ (by decide)
          by_cases c1 : D' % 10 = 0
          · rw [if_neg (fun y => by omega)] at er
            rw [Vn er]
            rw [c1] at md
            simp (config := {decide := true, maxSteps := 5000000}) (disch := omega) only [↓reduceIte, ↓wp_some, ↓wp_none, wp_ite, ↓wp_cl, ↓wp_rz, ↓wp_nz, ↓wp_nzL, ↓wp_fI, ↓wp_fL, ↓wp_fR, ↓wp_pI, ↓wp_pL, ↓wp_pR, ↓wp_pZ, ↓wp_aI, ↓wp_aL, ↓wp_aR, ↓wp_bI, ↓wp_bL, ↓wp_bR, ↓wp_rO, ↓wp_cO, ↓wp_nO, ↓wp_iO, ↓wp_tbI, ↓wp_tbL, ↓wp_jn, q_okT, q_okA, q_gI, q_gL, q_gR, q_sI, q_sL, q_sR, q_SI, q_SL, q_SR, q_IL, q_IR, q_LI, q_LR, q_RI, q_RL, List.contains_cons, List.contains_nil, Nat.reduceBEq, Nat.reduceEqDiff, beq_self_eq_true, Bool.or_false, Bool.false_or, Bool.true_or, Bool.or_true, Bool.and_true, Bool.true_and, Bool.false_and, Bool.and_false, if_true, if_false, Bool.false_eq_true, true_and, and_true, false_and, and_false, and_self, not_true, not_false_iff, reduceCtorEq, forall_const, false_imp_iff, true_imp_iff, true_or, or_true, false_or, or_false, l.r49_2, l.r49_4, l.r49_5, l.r49_6, l.r49_7, l.r49_8, l.r49_9, l.r49_10, l.r49_12, l.r49_14, l.r49_15, l.r49_16, l.r49_18, l.r49_19, l.r49_20, l.r49_21, l.r49_22, l.r49_23, l.r49_24, l.r49_34, l.r49_35, l.r49_36, l.r49_37, l.r49_38, l.r49_39, l.r49_40, l.r49_41, l.r49_42, l.r49_43, l.r49_44, l.r49_46, l.r49_47, l.r49_48, l.r49_49, l.r49_50, l.r49_51, l.r49_59, l.r49_60, l.r49_61, l.r49_62, l.r49_63, l.r49_64, l.r49_66, l.r49_67, l.r49_68, l.r49_69, l.r49_70, l.r49_74, l.r49_80, l.r49_81, l.r49_82, l.r49_83, l.r49_85, l.r49_86, l.r49_87, l.r49_88, l.r49_89, l.s49, l.s50, l.s51, l.s52, l.s53, l.s54, l.s55, l.s56, l.s57, l.s58, l.s59, l.s60, l.s61, l.s62, l.s63, l.s64, l.s65, l.s66, l.s67, l.s68, l.s69, l.s70, l.s71, l.s72, l.s73, l.s74, l.s75, l.s76, l.s77, l.s78, l.s79, l.s80, l.s81, l.s82, l.s83, l.s84, l.s85, l.s86, l.s87, l.s88, l.s89, l.s90, l.s91, l.s92, l.s93, l.s94, l.s95, l.s96, l.s97, l.s98, l.s99, l.s100, l.s101, l.s102, l.s103, l.s104, l.s105, l.s106, m.i50, m.i51, m.i52, m.i53, m.i54, m.i55, m.i56, m.i57, m.i58, m.i59, m.i60, m.i61, m.i62, m.i63, m.i64, m.i65, m.i66, m.i67, m.i68, m.i69, m.i70, m.i71, m.i80, m.i81, m.i82, m.i83, m.i84, m.i86, m.i87, m.i88, m.i89, m.i90, m.i92, m.i93, m.i94, m.i97, m.i98, m.i102, m.i103, m.i104, m.i105, m.f1, m.f3, m.f11, m.f13, m.f17, m.f25, m.f33, m.f65, m.f75, m.f76, m.f84, le0, n100, ne_eq, dv, md, n.w, wp_use (t_X12_in _ _ _ _), inN]
            exact hs
          · have em : nI (D' % 10) - 1 = nI (D' % 10 - 1) := by
              obtain ⟨q, hq⟩ : ∃ q, D' % 10 = q + 1 := ⟨D' % 10 - 1, by omega⟩
              rw [hq, nI_pred]; rfl
            have iw := inW (D' % 10 - 1) (by omega)
            by_cases c2 : D' % 10 - 1 + 1 ≤ nW w
            · have bt := bit_t u u1 (D' % 10 - 1) (by omega)
              have bo := bit_o u u1 (D' % 10 - 1) (by omega)
              by_cases c3 : u.testBit (D' % 10 - 1) = true
              · rw [if_neg (fun y => by rw [c3] at y; exact absurd y.2.2 (by decide))] at er
                rw [if_pos c3] at bt
                rw [Vn er]
                simp (config := {decide := true, maxSteps := 5000000}) (disch := omega) only [↓reduceIte, ↓wp_some, ↓wp_none, wp_ite, ↓wp_cl, ↓wp_rz, ↓wp_nz, ↓wp_nzL, ↓wp_fI, ↓wp_fL, ↓wp_fR, ↓wp_pI, ↓wp_pL, ↓wp_pR, ↓wp_pZ, ↓wp_aI, ↓wp_aL, ↓wp_aR, ↓wp_bI, ↓wp_bL, ↓wp_bR, ↓wp_rO, ↓wp_cO, ↓wp_nO, ↓wp_iO, ↓wp_tbI, ↓wp_tbL, ↓wp_jn, q_okT, q_okA, q_gI, q_gL, q_gR, q_sI, q_sL, q_sR, q_SI, q_SL, q_SR, q_IL, q_IR, q_LI, q_LR, q_RI, q_RL, List.contains_cons, List.contains_nil, Nat.reduceBEq, Nat.reduceEqDiff, beq_self_eq_true, Bool.or_false, Bool.false_or, Bool.true_or, Bool.or_true, Bool.and_true, Bool.true_and, Bool.false_and, Bool.and_false, if_true, if_false, Bool.false_eq_true, true_and, and_true, false_and, and_false, and_self, not_true, not_false_iff, reduceCtorEq, forall_const, false_imp_iff, true_imp_iff, true_or, or_true, false_or, or_false, l.r49_2, l.r49_4, l.r49_5, l.r49_6, l.r49_7, l.r49_8, l.r49_9, l.r49_10, l.r49_12, l.r49_14, l.r49_15, l.r49_16, l.r49_18, l.r49_19, l.r49_20, l.r49_21, l.r49_22, l.r49_23, l.r49_24, l.r49_34, l.r49_35, l.r49_36, l.r49_37, l.r49_38, l.r49_39, l.r49_40, l.r49_41, l.r49_42, l.r49_43, l.r49_44, l.r49_46, l.r49_47, l.r49_48, l.r49_49, l.r49_50, l.r49_51, l.r49_59, l.r49_60, l.r49_61, l.r49_62, l.r49_63, l.r49_64, l.r49_66, l.r49_67, l.r49_68, l.r49_69, l.r49_70, l.r49_74, l.r49_80, l.r49_81, l.r49_82, l.r49_83, l.r49_85, l.r49_86, l.r49_87, l.r49_88, l.r49_89, l.s49, l.s50, l.s51, l.s52, l.s53, l.s54, l.s55, l.s56, l.s57, l.s58, l.s59, l.s60, l.s61, l.s62, l.s63, l.s64, l.s65, l.s66, l.s67, l.s68, l.s69, l.s70, l.s71, l.s72, l.s73, l.s74, l.s75, l.s76, l.s77, l.s78, l.s79, l.s80, l.s81, l.s82, l.s83, l.s84, l.s85, l.s86, l.s87, l.s88, l.s89, l.s90, l.s91, l.s92, l.s93, l.s94, l.s95, l.s96, l.s97, l.s98, l.s99, l.s100, l.s101, l.s102, l.s103, l.s104, l.s105, l.s106, m.i50, m.i51, m.i52, m.i53, m.i54, m.i55, m.i56, m.i57, m.i58, m.i59, m.i60, m.i61, m.i62, m.i63, m.i64, m.i65, m.i66, m.i67, m.i68, m.i69, m.i70, m.i71, m.i80, m.i81, m.i82, m.i83, m.i84, m.i86, m.i87, m.i88, m.i89, m.i90, m.i92, m.i93, m.i94, m.i97, m.i98, m.i102, m.i103, m.i104, m.i105, m.f1, m.f3, m.f11, m.f13, m.f17, m.f25, m.f33, m.f65, m.f75, m.f76, m.f84, le0, n100, ne_eq, dv, md, em, n.w, wp_use (t_X12_in _ _ _ _), iw, c2, bt]
                exact hs
              · have c4 : u.testBit (D' % 10 - 1) = false := by simpa using c3
                rw [if_pos ⟨by omega, by omega, c4⟩] at er
                rw [if_neg c3] at bt
                have bs := pc7_s u u1 (D' % 10 - 1) (by omega) c4
                have n01 : ¬ (0 : Int32) = 1 := by decide
                have ei : nI i + 1 = nI (i + 1) := nI_add _ 1
                have ih := ih (nI (i + 1)) (nI (u ||| 2 ^ (D' % 10 - 1))) (nI (D' / 10)) hh ⟨rfl, rfl, u ||| 2 ^ (D' % 10 - 1), D' / 10, L ++ [D' % 10 - 1], rfl, rfl, bs.2, by omega, by rw [bs.1, pu], by rw [List.length_append, hl]; rfl, by
                  rw [er, hf2]
                  cases rdg (nW w) f (D' / 10) (u ||| 2 ^ (D' % 10 - 1)) with
                  | none => rfl
                  | some r => simp⟩
                simp (config := {decide := true, maxSteps := 5000000}) (disch := omega) only [↓reduceIte, ↓wp_some, ↓wp_none, wp_ite, ↓wp_cl, ↓wp_rz, ↓wp_nz, ↓wp_nzL, ↓wp_fI, ↓wp_fL, ↓wp_fR, ↓wp_pI, ↓wp_pL, ↓wp_pR, ↓wp_pZ, ↓wp_aI, ↓wp_aL, ↓wp_aR, ↓wp_bI, ↓wp_bL, ↓wp_bR, ↓wp_rO, ↓wp_cO, ↓wp_nO, ↓wp_iO, ↓wp_tbI, ↓wp_tbL, ↓wp_jn, q_okT, q_okA, q_gI, q_gL, q_gR, q_sI, q_sL, q_sR, q_SI, q_SL, q_SR, q_IL, q_IR, q_LI, q_LR, q_RI, q_RL, List.contains_cons, List.contains_nil, Nat.reduceBEq, Nat.reduceEqDiff, beq_self_eq_true, Bool.or_false, Bool.false_or, Bool.true_or, Bool.or_true, Bool.and_true, Bool.true_and, Bool.false_and, Bool.and_false, if_true, if_false, Bool.false_eq_true, true_and, and_true, false_and, and_false, and_self, not_true, not_false_iff, reduceCtorEq, forall_const, false_imp_iff, true_imp_iff, true_or, or_true, false_or, or_false, l.r49_2, l.r49_4, l.r49_5, l.r49_6, l.r49_7, l.r49_8, l.r49_9, l.r49_10, l.r49_12, l.r49_14, l.r49_15, l.r49_16, l.r49_18, l.r49_19, l.r49_20, l.r49_21, l.r49_22, l.r49_23, l.r49_24, l.r49_34, l.r49_35, l.r49_36, l.r49_37, l.r49_38, l.r49_39, l.r49_40, l.r49_41, l.r49_42, l.r49_43, l.r49_44, l.r49_46, l.r49_47, l.r49_48, l.r49_49, l.r49_50, l.r49_51, l.r49_59, l.r49_60, l.r49_61, l.r49_62, l.r49_63, l.r49_64, l.r49_66, l.r49_67, l.r49_68, l.r49_69, l.r49_70, l.r49_74, l.r49_80, l.r49_81, l.r49_82, l.r49_83, l.r49_85, l.r49_86, l.r49_87, l.r49_88, l.r49_89, l.s49, l.s50, l.s51, l.s52, l.s53, l.s54, l.s55, l.s56, l.s57, l.s58, l.s59, l.s60, l.s61, l.s62, l.s63, l.s64, l.s65, l.s66, l.s67, l.s68, l.s69, l.s70, l.s71, l.s72, l.s73, l.s74, l.s75, l.s76, l.s77, l.s78, l.s79, l.s80, l.s81, l.s82, l.s83, l.s84, l.s85, l.s86, l.s87, l.s88, l.s89, l.s90, l.s91, l.s92, l.s93, l.s94, l.s95, l.s96, l.s97, l.s98, l.s99, l.s100, l.s101, l.s102, l.s103, l.s104, l.s105, l.s106, m.i50, m.i51, m.i52, m.i53, m.i54, m.i55, m.i56, m.i57, m.i58, m.i59, m.i60, m.i61, m.i62, m.i63, m.i64, m.i65, m.i66, m.i67, m.i68, m.i69, m.i70, m.i71, m.i80, m.i81, m.i82, m.i83, m.i84, m.i86, m.i87, m.i88, m.i89, m.i90, m.i92, m.i93, m.i94, m.i97, m.i98, m.i102, m.i103, m.i104, m.i105, m.f1, m.f3, m.f11, m.f13, m.f17, m.f25, m.f33, m.f65, m.f75, m.f76, m.f84, le0, n100, ne_eq, dv, md, em, n.w, wp_use (t_X12_in _ _ _ _), iw, c2, bt, bo, n01, ei]
                exact ih
            · rw [if_neg (fun y => by omega)] at er
              rw [Vn er]
              simp (config := {decide := true, maxSteps := 5000000}) (disch := omega) only [↓reduceIte, ↓wp_some, ↓wp_none, wp_ite, ↓wp_cl, ↓wp_rz, ↓wp_nz, ↓wp_nzL, ↓wp_fI, ↓wp_fL, ↓wp_fR, ↓wp_pI, ↓wp_pL, ↓wp_pR, ↓wp_pZ, ↓wp_aI, ↓wp_aL, ↓wp_aR, ↓wp_bI, ↓wp_bL, ↓wp_bR, ↓wp_rO, ↓wp_cO, ↓wp_nO, ↓wp_iO, ↓wp_tbI, ↓wp_tbL, ↓wp_jn, q_okT, q_okA, q_gI, q_gL, q_gR, q_sI, q_sL, q_sR, q_SI, q_SL, q_SR, q_IL, q_IR, q_LI, q_LR, q_RI, q_RL, List.contains_cons, List.contains_nil, Nat.reduceBEq, Nat.reduceEqDiff, beq_self_eq_true, Bool.or_false, Bool.false_or, Bool.true_or, Bool.or_true, Bool.and_true, Bool.true_and, Bool.false_and, Bool.and_false, if_true, if_false, Bool.false_eq_true, true_and, and_true, false_and, and_false, and_self, not_true, not_false_iff, reduceCtorEq, forall_const, false_imp_iff, true_imp_iff, true_or, or_true, false_or, or_false, l.r49_2, l.r49_4, l.r49_5, l.r49_6, l.r49_7, l.r49_8, l.r49_9, l.r49_10, l.r49_12, l.r49_14, l.r49_15, l.r49_16, l.r49_18, l.r49_19, l.r49_20, l.r49_21, l.r49_22, l.r49_23, l.r49_24, l.r49_34, l.r49_35, l.r49_36, l.r49_37, l.r49_38, l.r49_39, l.r49_40, l.r49_41, l.r49_42, l.r49_43, l.r49_44, l.r49_46, l.r49_47, l.r49_48, l.r49_49, l.r49_50, l.r49_51, l.r49_59, l.r49_60, l.r49_61, l.r49_62, l.r49_63, l.r49_64, l.r49_66, l.r49_67, l.r49_68, l.r49_69, l.r49_70, l.r49_74, l.r49_80, l.r49_81, l.r49_82, l.r49_83, l.r49_85, l.r49_86, l.r49_87, l.r49_88, l.r49_89, l.s49, l.s50, l.s51, l.s52, l.s53, l.s54, l.s55, l.s56, l.s57, l.s58, l.s59, l.s60, l.s61, l.s62, l.s63, l.s64, l.s65, l.s66, l.s67, l.s68, l.s69, l.s70, l.s71, l.s72, l.s73, l.s74, l.s75, l.s76, l.s77, l.s78, l.s79, l.s80, l.s81, l.s82, l.s83, l.s84, l.s85, l.s86, l.s87, l.s88, l.s89, l.s90, l.s91, l.s92, l.s93, l.s94, l.s95, l.s96, l.s97, l.s98, l.s99, l.s100, l.s101, l.s102, l.s103, l.s104, l.s105, l.s106, m.i50, m.i51, m.i52, m.i53, m.i54, m.i55, m.i56, m.i57, m.i58, m.i59, m.i60, m.i61, m.i62, m.i63, m.i64, m.i65, m.i66, m.i67, m.i68, m.i69, m.i70, m.i71, m.i80, m.i81, m.i82, m.i83, m.i84, m.i86, m.i87, m.i88, m.i89, m.i90, m.i92, m.i93, m.i94, m.i97, m.i98, m.i102, m.i103, m.i104, m.i105, m.f1, m.f3, m.f11, m.f13, m.f17, m.f25, m.f33, m.f65, m.f75, m.f76, m.f84, le0, n100, ne_eq, dv, md, em, n.w, wp_use (t_X12_in _ _ _ _), iw, c2]
              exact hs
    · unfold s_judge
      simp (config := {decide := true, maxSteps := 5000000}) (disch := omega) only [↓reduceIte, ↓wp_some, ↓wp_none, wp_ite, ↓wp_cl, ↓wp_rz, ↓wp_nz, ↓wp_nzL, ↓wp_fI, ↓wp_fL, ↓wp_fR, ↓wp_pI, ↓wp_pL, ↓wp_pR, ↓wp_pZ, ↓wp_aI, ↓wp_aL, ↓wp_aR, ↓wp_bI, ↓wp_bL, ↓wp_bR, ↓wp_rO, ↓wp_cO, ↓wp_nO, ↓wp_iO, ↓wp_tbI, ↓wp_tbL, ↓wp_jn, q_okT, q_okA, q_gI, q_gL, q_gR, q_sI, q_sL, q_sR, q_SI, q_SL, q_SR, q_IL, q_IR, q_LI, q_LR, q_RI, q_RL, List.contains_cons, List.contains_nil, Nat.reduceBEq, Nat.reduceEqDiff, beq_self_eq_true, Bool.or_false, Bool.false_or, Bool.true_or, Bool.or_true, Bool.and_true, Bool.true_and, Bool.false_and, Bool.and_false, if_true, if_false, Bool.false_eq_true, true_and, and_true, false_and, and_false, and_self, not_true, not_false_iff, reduceCtorEq, forall_const, false_imp_iff, true_imp_iff, true_or, or_true, false_or, or_false, l.r49_2, l.r49_4, l.r49_5, l.r49_6, l.r49_7, l.r49_8, l.r49_9, l.r49_10, l.r49_12, l.r49_14, l.r49_15, l.r49_16, l.r49_18, l.r49_19, l.r49_20, l.r49_21, l.r49_22, l.r49_23, l.r49_24, l.r49_34, l.r49_35, l.r49_36, l.r49_37, l.r49_38, l.r49_39, l.r49_40, l.r49_41, l.r49_42, l.r49_43, l.r49_44, l.r49_46, l.r49_47, l.r49_48, l.r49_49, l.r49_50, l.r49_51, l.r49_59, l.r49_60, l.r49_61, l.r49_62, l.r49_63, l.r49_64, l.r49_66, l.r49_67, l.r49_68, l.r49_69, l.r49_70, l.r49_74, l.r49_80, l.r49_81, l.r49_82, l.r49_83, l.r49_85, l.r49_86, l.r49_87, l.r49_88, l.r49_89, l.s49, l.s50, l.s51, l.s52, l.s53, l.s54, l.s55, l.s56, l.s57, l.s58, l.s59, l.s60, l.s61, l.s62, l.s63, l.s64, l.s65, l.s66, l.s67, l.s68, l.s69, l.s70, l.s71, l.s72, l.s73, l.s74, l.s75, l.s76, l.s77, l.s78, l.s79, l.s80, l.s81, l.s82, l.s83, l.s84, l.s85, l.s86, l.s87, l.s88, l.s89, l.s90, l.s91, l.s92, l.s93, l.s94, l.s95, l.s96, l.s97, l.s98, l.s99, l.s100, l.s101, l.s102, l.s103, l.s104, l.s105, l.s106, m.i50, m.i51, m.i52, m.i53, m.i54, m.i55, m.i56, m.i57, m.i58, m.i59, m.i60, m.i61, m.i62, m.i63, m.i64, m.i65, m.i66, m.i67, m.i68, m.i69, m.i70, m.i71, m.i80, m.i81, m.i82, m.i83, m.i84, m.i86, m.i87, m.i88, m.i89, m.i90, m.i92, m.i93, m.i94, m.i97, m.i98, m.i102, m.i103, m.i104, m.i105, m.f1, m.f3, m.f11, m.f13, m.f17, m.f25, m.f33, m.f65, m.f75, m.f76, m.f84, wp_use (t_X12_isWalk m _ _), z, d1]
      exact hs
  · unfold s_judge
    simp (config := {decide := true, maxSteps := 5000000}) (disch := omega) only [↓reduceIte, ↓wp_some, ↓wp_none, wp_ite, ↓wp_cl, ↓wp_rz, ↓wp_nz, ↓wp_nzL, ↓wp_fI, ↓wp_fL, ↓wp_fR, ↓wp_pI, ↓wp_pL, ↓wp_pR, ↓wp_pZ, ↓wp_aI, ↓wp_aL, ↓wp_aR, ↓wp_bI, ↓wp_bL, ↓wp_bR, ↓wp_rO, ↓wp_cO, ↓wp_nO, ↓wp_iO, ↓wp_tbI, ↓wp_tbL, ↓wp_jn, q_okT, q_okA, q_gI, q_gL, q_gR, q_sI, q_sL, q_sR, q_SI, q_SL, q_SR, q_IL, q_IR, q_LI, q_LR, q_RI, q_RL, List.contains_cons, List.contains_nil, Nat.reduceBEq, Nat.reduceEqDiff, beq_self_eq_true, Bool.or_false, Bool.false_or, Bool.true_or, Bool.or_true, Bool.and_true, Bool.true_and, Bool.false_and, Bool.and_false, if_true, if_false, Bool.false_eq_true, true_and, and_true, false_and, and_false, and_self, not_true, not_false_iff, reduceCtorEq, forall_const, false_imp_iff, true_imp_iff, true_or, or_true, false_or, or_false, l.r49_2, l.r49_4, l.r49_5, l.r49_6, l.r49_7, l.r49_8, l.r49_9, l.r49_10, l.r49_12, l.r49_14, l.r49_15, l.r49_16, l.r49_18, l.r49_19, l.r49_20, l.r49_21, l.r49_22, l.r49_23, l.r49_24, l.r49_34, l.r49_35, l.r49_36, l.r49_37, l.r49_38, l.r49_39, l.r49_40, l.r49_41, l.r49_42, l.r49_43, l.r49_44, l.r49_46, l.r49_47, l.r49_48, l.r49_49, l.r49_50, l.r49_51, l.r49_59, l.r49_60, l.r49_61, l.r49_62, l.r49_63, l.r49_64, l.r49_66, l.r49_67, l.r49_68, l.r49_69, l.r49_70, l.r49_74, l.r49_80, l.r49_81, l.r49_82, l.r49_83, l.r49_85, l.r49_86, l.r49_87, l.r49_88, l.r49_89, l.s49, l.s50, l.s51, l.s52, l.s53, l.s54, l.s55, l.s56, l.s57, l.s58, l.s59, l.s60, l.s61, l.s62, l.s63, l.s64, l.s65, l.s66, l.s67, l.s68, l.s69, l.s70, l.s71, l.s72, l.s73, l.s74, l.s75, l.s76, l.s77, l.s78, l.s79, l.s80, l.s81, l.s82, l.s83, l.s84, l.s85, l.s86, l.s87, l.s88, l.s89, l.s90, l.s91, l.s92, l.s93, l.s94, l.s95, l.s96, l.s97, l.s98, l.s99, l.s100, l.s101, l.s102, l.s103, l.s104, l.s105, l.s106, m.i50, m.i51, m.i52, m.i53, m.i54, m.i55, m.i56, m.i57, m.i58, m.i59, m.i60, m.i61, m.i62, m.i63, m.i64, m.i65, m.i66, m.i67, m.i68, m.i69, m.i70, m.i71, m.i80, m.i81, m.i82, m.i83, m.i84, m.i86, m.i87, m.i88, m.i89, m.i90, m.i92, m.i93, m.i94, m.i97, m.i98, m.i102, m.i103, m.i104, m.i105, m.f1, m.f3, m.f11, m.f13, m.f17, m.f25, m.f33, m.f65, m.f75, m.f76, m.f84, wp_use (t_X12_isWalk m _ _), z]
    exact hs
