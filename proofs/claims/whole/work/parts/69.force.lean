theorem flatP_split (p : Prog) {l : Nat} (hl : l < p.length) : flatP p = flatP (p.take l) ++ (((p.getD l (0, [], [])).2.1 ++ (p.getD l (0, [], [])).2.2) ++ flatP (p.drop (l + 1))) := by
  have e : p = p.take l ++ (p.getD l (0, [], []) :: p.drop (l + 1)) := by
    rw [← drop_cons hl, List.take_append_drop]
  have : flatP (p.take l ++ (p.getD l (0, [], []) :: p.drop (l + 1))) = flatP (p.take l) ++ (((p.getD l (0, [], [])).2.1 ++ (p.getD l (0, [], [])).2.2) ++ flatP (p.drop (l + 1))) := by
    unfold flatP
    rw [List.flatMap_append, List.flatMap_cons]
  rw [← this, ← e]
theorem offP_succ (p : Prog) {l : Nat} (hl : l < p.length) : offP p (l + 1) = offP p l + (p.getD l (0, [], [])).2.1.length + (p.getD l (0, [], [])).2.2.length := by
  unfold offP
  have : p.take (l + 1) = p.take l ++ [p.getD l (0, [], [])] := by
    rw [List.take_succ]
    congr 1
    simp [List.getD, hl]
  rw [this]
  unfold flatP
  rw [List.flatMap_append, List.length_append, List.flatMap_singleton, List.length_append]
  omega
theorem offP_len (p : Prog) {l : Nat} (hl : l < p.length) : offP p (l + 1) ≤ (flatP p).length := by
  rw [offP_succ p hl, flatP_split p hl]
  unfold offP
  simp only [List.length_append]
  omega
theorem getD_app {α : Type} {a b : List α} {k : Nat} {d : α} (hk : k < b.length) (c : List α) : (a ++ (b ++ c)).getD (a.length + k) d = b.getD k d := by
  simp only [List.getD]
  rw [List.getElem?_append_right (by omega), show a.length + k - a.length = k by omega, List.getElem?_append_left hk]
theorem flat_cond (p : Prog) {l k : Nat} (hl : l < p.length) (hk : k < (p.getD l (0, [], [])).2.1.length) : (flatP p).getD (offP p l + k) (0, 0) = (p.getD l (0, [], [])).2.1.getD k (0, 0) := by
  rw [flatP_split p hl, List.append_assoc]
  exact getD_app hk _
theorem flat_main (p : Prog) {l k : Nat} (hl : l < p.length) (hk : k < (p.getD l (0, [], [])).2.2.length) : (flatP p).getD (offP p l + (p.getD l (0, [], [])).2.1.length + k) (0, 0) = (p.getD l (0, [], [])).2.2.getD k (0, 0) := by
  rw [flatP_split p hl, List.append_assoc, ← List.append_assoc]
  have := getD_app (a := flatP (p.take l) ++ (p.getD l (0, [], [])).2.1) (d := (0, 0)) hk (flatP (p.drop (l + 1)))
  rw [List.length_append] at this
  exact this
theorem RTx.sv {h w h1 : AH} {P : Nat → Prog} (r : RTx h w P) (s : Sv h h1) : RTx h1 w P := by
  intro t ht
  obtain ⟨a1, a2, a3, a4, a5⟩ := r t ht
  have e : ∀ a k, 72 ≤ a → a ≤ 77 → hI h1 a k = hI h a k := fun a k h1 h2 => s.2.1 a k (fun _ => by
    have : a = 72 ∨ a = 73 ∨ a = 74 ∨ a = 75 ∨ a = 76 ∨ a = 77 := by omega
    rcases this with rfl | rfl | rfl | rfl | rfl | rfl <;> rfl)
  refine ⟨a1, by rw [e _ _ (by omega) (by omega)]; exact a2, a3, fun l hl => ?_, fun k hk => ?_⟩
  · rw [e _ _ (by omega) (by omega), e _ _ (by omega) (by omega), e _ _ (by omega) (by omega)]; exact a4 l hl
  · rw [e _ _ (by omega) (by omega), e _ _ (by omega) (by omega)]; exact a5 k hk
theorem RTx.sm {h w h1 : AH} {P : Nat → Prog} (r : RTx h w P) (s : Sm h h1) : RTx h1 w P := r.sv s.sv
theorem t_X12_lineGives {h w : AH} {P : Nat → Prog} (l : Lay h) (n : WN w) (r : RTx h w P) (G : WG w P) (F : Nat → Int32) (hF : ∀ k, k ≤ 10 → hI h 78 k = F k) {t : Nat} (ht : t < nT w) : wp (f_X12_lineGives (some 49) (nI t) h) (fun v h' => v = (progV F (P t) 0).1 ∧ hI h' 49 45 = (progV F (P t) 0).2 ∧ Sm h h') := by
  have hn := n.t20
  obtain ⟨a1, a2, a3, a4, a5⟩ := r t ht
  have G := G t ht
  unfold f_X12_lineGives
  generalize P t = p at a1 a2 a3 a4 a5 G ⊢
  simp (config := {maxSteps := 5000000}) (disch := omega) only [n1_0, m1neg, ne_eq, nle2, n24, n10, nle, b10, b11, am1, n0m1, Int32.add_zero, Int32.zero_add, ite_true, ite_false, Bool.and_eq_true, nI_m4, nI_m5, nI_m8, nI_m10, nI_m12, nI_m24, nI_m31, nI_m40, nI_m60, nI_m81, nI_m161, nI_m170, nI_p2, nI_p3, nI_p4, nI_p5, nI_p6, nI_pred, nI_leI, nI_ltI, nI_eq, nI_clamp, nI_neg, nI_ge0, nI_neg1, nI_1, nI_add, nI_mul, dle, decide_true, decide_false, Bool.not_true, Bool.not_false, decide_eq_true_eq]
  refine wp_g3 p.length (fun j x1 x2 h1 => x2 = nI (81 * t + j) ∧ x1 = nI (offP p j) ∧ Sm h h1 ∧ hI h1 78 = hI h 78 ∧ progV F (p.drop j) j = progV F p 0) ⟨rfl, rfl, Sm.refl h, rfl, rfl⟩ (by omega) ?_ ?_
  · rintro K x1 x2 h1 ⟨rfl, rfl, s, e78, hr⟩
    have l := l.sm s
    have e72 : hI h1 72 t = nI p.length := by rw [s.2.1 72 t (fun _ => rfl)]; exact a2
    rw [List.drop_length] at hr
    rw [← hr]
    simp (config := {maxSteps := 5000000}) (disch := omega) only [↓reduceIte, ↓wp_some, ↓wp_none, wp_ite, ↓wp_cl, ↓wp_rz, ↓wp_nz, ↓wp_nzL, ↓wp_fI, ↓wp_fL, ↓wp_fR, ↓wp_pI, ↓wp_pL, ↓wp_pR, ↓wp_pZ, ↓wp_aI, ↓wp_aL, ↓wp_aR, ↓wp_bI, ↓wp_bL, ↓wp_bR, ↓wp_rO, ↓wp_cO, ↓wp_nO, ↓wp_iO, ↓wp_tbI, ↓wp_tbL, ↓wp_jn, q_okT, q_okA, q_gI, q_gL, q_gR, q_sI, q_sL, q_sR, q_SI, q_SL, q_SR, q_II, q_IL, q_IR, q_LI, q_LL, q_LR, q_RI, q_RL, q_RR, List.contains_cons, List.contains_nil, Nat.reduceBEq, Nat.reduceEqDiff, beq_self_eq_true, Bool.or_false, Bool.false_or, Bool.true_or, Bool.or_true, Bool.and_true, Bool.true_and, Bool.false_and, Bool.and_false, if_true, if_false, Bool.false_eq_true, true_and, and_true, false_and, and_false, and_self, not_true, not_false_iff, reduceCtorEq, forall_const, false_imp_iff, true_imp_iff, true_or, or_true, false_or, or_false, l.r49_2, l.r49_4, l.r49_5, l.r49_6, l.r49_7, l.r49_8, l.r49_9, l.r49_10, l.r49_12, l.r49_14, l.r49_15, l.r49_16, l.r49_18, l.r49_19, l.r49_20, l.r49_21, l.r49_22, l.r49_23, l.r49_24, l.r49_34, l.r49_35, l.r49_36, l.r49_37, l.r49_38, l.r49_39, l.r49_40, l.r49_41, l.r49_42, l.r49_43, l.r49_44, l.r49_46, l.r49_47, l.r49_48, l.r49_49, l.r49_50, l.r49_51, l.r49_59, l.r49_60, l.r49_61, l.r49_62, l.r49_63, l.r49_64, l.r49_66, l.r49_67, l.r49_68, l.r49_69, l.r49_70, l.r49_74, l.r49_80, l.r49_81, l.r49_82, l.r49_83, l.r49_85, l.r49_86, l.r49_87, l.r49_88, l.r49_89, l.s49, l.s50, l.s51, l.s52, l.s53, l.s54, l.s55, l.s56, l.s57, l.s58, l.s59, l.s60, l.s61, l.s62, l.s63, l.s64, l.s65, l.s66, l.s67, l.s68, l.s69, l.s70, l.s71, l.s72, l.s73, l.s74, l.s75, l.s76, l.s77, l.s78, l.s79, l.s80, l.s81, l.s82, l.s83, l.s84, l.s85, l.s86, l.s87, l.s88, l.s89, l.s90, l.s91, l.s92, l.s93, l.s94, l.s95, l.s96, l.s97, l.s98, l.s99, l.s100, l.s101, l.s102, l.s103, l.s104, l.s105, l.s106, n1_0, m1neg, ne_eq, nle2, n24, n10, nle, b10, b11, am1, n0m1, Int32.add_zero, Int32.zero_add, ite_true, ite_false, Bool.and_eq_true, nI_m4, nI_m5, nI_m8, nI_m10, nI_m12, nI_m24, nI_m31, nI_m40, nI_m60, nI_m81, nI_m161, nI_m170, nI_p2, nI_p3, nI_p4, nI_p5, nI_p6, nI_pred, nI_leI, nI_ltI, nI_eq, nI_clamp, nI_neg, nI_ge0, nI_neg1, nI_1, nI_add, nI_mul, dle, decide_true, decide_false, Bool.not_true, Bool.not_false, decide_eq_true_eq, e72, Nat.le_refl]
    exact ⟨rfl, rfl, s.wI 49 45 _ (by omega) rfl⟩
  · rintro K j x1 x2 h1 hj ⟨rfl, rfl, s, e78, hr⟩ ih
    have l0 := l
    have l := l.sm s
    have e72 : hI h1 72 t = nI p.length := by rw [s.2.1 72 t (fun _ => rfl)]; exact a2
    obtain ⟨b1, b2, b3⟩ := a4 j hj
    have c1 := (s.2.1 73 (81 * t + j) (fun _ => rfl)).trans b1
    have c2 := (s.2.1 74 (81 * t + j) (fun _ => rfl)).trans b2
    have c3 := (s.2.1 75 (81 * t + j) (fun _ => rfl)).trans b3
    have fc := fun k hk => flat_cond p (k := k) hj hk
    have fm := fun k hk => flat_main p (k := k) hj hk
    have hoff := offP_succ p hj
    have hlen := offP_len p hj
    rw [drop_cons (d := (0, [], [])) hj] at hr
    have ho := G _ (getD_mem (d := (0, [], [])) hj)
    rw [hoff] at c3
    generalize hln : p.getD j (0, [], []) = ln at hr b1 b2 b3 c1 c2 c3 fc fm ho hoff
    generalize progV F p 0 = res at ih hr ⊢
    obtain ⟨o1, -, h3, h4, h5, h6⟩ := ho
    have ih := fun hx a1 a2 a3 => ih (nI (offP p (j + 1))) (nI (81 * t + (j + 1))) hx ⟨rfl, rfl, a1, a2, a3⟩
    have step0 : (81 * t + p.length ≤ 81 * t + j) = False := eq_false (by omega)
    have hr : (if lineCounts F ln = true then (valI F ln.2.2, nI j) else progV F (p.drop (j + 1)) (j + 1)) = res := hr
    have hsub : nI (81 * t + j) - nI (81 * t) = nI j := by rw [nI_sub (by omega)]; congr 1; omega
    have acts : ∀ hx : AH, Sm h hx → ∀ k, k < (flatP p).length → hI hx 76 (170 * t + k) = actI ((flatP p).getD k (0, 0)) ∧ hI hx 77 (170 * t + k) = withI ((flatP p).getD k (0, 0)) := fun hx sx k hk => by
      rw [sx.2.1 76 _ (fun _ => rfl), sx.2.1 77 _ (fun _ => rfl)]; exact a5 k hk
    have wmain : ∀ hx : AH, Sm h hx → hI hx 78 = hI h 78 → wp (f_X12_worked (some 49) (nI t) (nI (offP p j + ln.2.1.length)) (nI (offP p j + ln.2.1.length + ln.2.2.length)) hx) (fun v h' => v = valI F ln.2.2 ∧ Sm hx h' ∧ hI h' 78 = hI hx 78 ∧ hI h' 49 45 = hI hx 49 45) := fun hx sx ex => by
      refine t_X12_worked (l0.sm sx) F (by omega) (by omega) (fun k hk => ?_) (fun k hk => by rw [ex]; exact hF k hk) h4 h6
      rw [← fm k hk, Nat.add_assoc (170 * t)]
      exact acts hx sx _ (by omega)
    have wcond : ∀ hx : AH, Sm h hx → hI hx 78 = hI h 78 → ln.1 ≠ 0 → wp (f_X12_worked (some 49) (nI t) (nI (offP p j)) (nI (offP p j + ln.2.1.length)) hx) (fun v h' => v = valI F ln.2.1 ∧ Sm hx h' ∧ hI h' 78 = hI hx 78 ∧ hI h' 49 45 = hI hx 49 45) := fun hx sx ex z => by
      refine t_X12_worked (l0.sm sx) F (by omega) (by omega) (fun k hk => ?_) (fun k hk => by rw [ex]; exact hF k hk) (h3 z) h5
      rw [← fc k hk, Nat.add_assoc (170 * t)]
      exact acts hx sx _ (by omega)
    -- a line that counts
    have yes : ∀ hx : AH, Sm h hx → hI hx 78 = hI h 78 → lineCounts F ln = true → wp (f_X12_worked (some 49) (nI t) (nI (offP p j + ln.2.1.length)) (nI (offP p j + ln.2.1.length + ln.2.2.length)) (wI hx 49 45 (nI j))) (fun v h' => v = res.1 ∧ hI h' 49 45 = res.2 ∧ Sm h h') := fun hx sx ex hl => by
      rw [if_pos hl] at hr
      refine wp_mono (wmain _ (sx.wI 49 45 _ (by omega) rfl) (by rw [q_ne (by omega)]; exact ex)) ?_
      rintro v h' ⟨rfl, s2, -, e45⟩
      exact ⟨by rw [← hr], by rw [e45, q_at, ← hr], (sx.wI 49 45 _ (by omega) rfl).trans s2⟩
    have c174 : ∀ hx : AH, Sm h hx → hI hx 74 (81 * t + j) = nI (offP p j + ln.2.1.length) := fun hx sx => (sx.2.1 74 (81 * t + j) (fun _ => rfl)).trans b2
    have c175 : ∀ hx : AH, Sm h hx → hI hx 75 (81 * t + j) = nI (offP p j + ln.2.1.length + ln.2.2.length) := fun hx sx => (sx.2.1 75 (81 * t + j) (fun _ => rfl)).trans (by rw [b3, hoff])
    by_cases z : ln.1 = 0
    · have hl : lineCounts F ln = true := by unfold lineCounts; simp [z]
      have c1 : hI h1 73 (81 * t + j) = 0 := by rw [c1, z]; rfl
      simp (config := {maxSteps := 5000000}) (disch := omega) only [↓reduceIte, ↓wp_some, ↓wp_none, wp_ite, ↓wp_cl, ↓wp_rz, ↓wp_nz, ↓wp_nzL, ↓wp_fI, ↓wp_fL, ↓wp_fR, ↓wp_pI, ↓wp_pL, ↓wp_pR, ↓wp_pZ, ↓wp_aI, ↓wp_aL, ↓wp_aR, ↓wp_bI, ↓wp_bL, ↓wp_bR, ↓wp_rO, ↓wp_cO, ↓wp_nO, ↓wp_iO, ↓wp_tbI, ↓wp_tbL, ↓wp_jn, q_okT, q_okA, q_gI, q_gL, q_gR, q_sI, q_sL, q_sR, q_SI, q_SL, q_SR, q_II, q_IL, q_IR, q_LI, q_LL, q_LR, q_RI, q_RL, q_RR, List.contains_cons, List.contains_nil, Nat.reduceBEq, Nat.reduceEqDiff, beq_self_eq_true, Bool.or_false, Bool.false_or, Bool.true_or, Bool.or_true, Bool.and_true, Bool.true_and, Bool.false_and, Bool.and_false, if_true, if_false, Bool.false_eq_true, true_and, and_true, false_and, and_false, and_self, not_true, not_false_iff, reduceCtorEq, forall_const, false_imp_iff, true_imp_iff, true_or, or_true, false_or, or_false, l.r49_2, l.r49_4, l.r49_5, l.r49_6, l.r49_7, l.r49_8, l.r49_9, l.r49_10, l.r49_12, l.r49_14, l.r49_15, l.r49_16, l.r49_18, l.r49_19, l.r49_20, l.r49_21, l.r49_22, l.r49_23, l.r49_24, l.r49_34, l.r49_35, l.r49_36, l.r49_37, l.r49_38, l.r49_39, l.r49_40, l.r49_41, l.r49_42, l.r49_43, l.r49_44, l.r49_46, l.r49_47, l.r49_48, l.r49_49, l.r49_50, l.r49_51, l.r49_59, l.r49_60, l.r49_61, l.r49_62, l.r49_63, l.r49_64, l.r49_66, l.r49_67, l.r49_68, l.r49_69, l.r49_70, l.r49_74, l.r49_80, l.r49_81, l.r49_82, l.r49_83, l.r49_85, l.r49_86, l.r49_87, l.r49_88, l.r49_89, l.s49, l.s50, l.s51, l.s52, l.s53, l.s54, l.s55, l.s56, l.s57, l.s58, l.s59, l.s60, l.s61, l.s62, l.s63, l.s64, l.s65, l.s66, l.s67, l.s68, l.s69, l.s70, l.s71, l.s72, l.s73, l.s74, l.s75, l.s76, l.s77, l.s78, l.s79, l.s80, l.s81, l.s82, l.s83, l.s84, l.s85, l.s86, l.s87, l.s88, l.s89, l.s90, l.s91, l.s92, l.s93, l.s94, l.s95, l.s96, l.s97, l.s98, l.s99, l.s100, l.s101, l.s102, l.s103, l.s104, l.s105, l.s106, n1_0, m1neg, ne_eq, nle2, n24, n10, nle, b10, b11, am1, n0m1, Int32.add_zero, Int32.zero_add, ite_true, ite_false, Bool.and_eq_true, nI_m4, nI_m5, nI_m8, nI_m10, nI_m12, nI_m24, nI_m31, nI_m40, nI_m60, nI_m81, nI_m161, nI_m170, nI_p2, nI_p3, nI_p4, nI_p5, nI_p6, nI_pred, nI_leI, nI_ltI, nI_eq, nI_clamp, nI_neg, nI_ge0, nI_neg1, nI_1, nI_add, nI_mul, dle, decide_true, decide_false, Bool.not_true, Bool.not_false, decide_eq_true_eq, e72, step0, c1, c2, c3, hsub, q_ne]
      exact yes h1 s e78 hl
    · have c10 : (hI h1 73 (81 * t + j) = 0) = False := eq_false (by rw [c1]; exact nI_ne0 (by omega) (by omega))
      have wc := wcond h1 s e78 z
      simp (config := {maxSteps := 5000000}) (disch := omega) only [↓reduceIte, ↓wp_some, ↓wp_none, wp_ite, ↓wp_cl, ↓wp_rz, ↓wp_nz, ↓wp_nzL, ↓wp_fI, ↓wp_fL, ↓wp_fR, ↓wp_pI, ↓wp_pL, ↓wp_pR, ↓wp_pZ, ↓wp_aI, ↓wp_aL, ↓wp_aR, ↓wp_bI, ↓wp_bL, ↓wp_bR, ↓wp_rO, ↓wp_cO, ↓wp_nO, ↓wp_iO, ↓wp_tbI, ↓wp_tbL, ↓wp_jn, q_okT, q_okA, q_gI, q_gL, q_gR, q_sI, q_sL, q_sR, q_SI, q_SL, q_SR, q_II, q_IL, q_IR, q_LI, q_LL, q_LR, q_RI, q_RL, q_RR, List.contains_cons, List.contains_nil, Nat.reduceBEq, Nat.reduceEqDiff, beq_self_eq_true, Bool.or_false, Bool.false_or, Bool.true_or, Bool.or_true, Bool.and_true, Bool.true_and, Bool.false_and, Bool.and_false, if_true, if_false, Bool.false_eq_true, true_and, and_true, false_and, and_false, and_self, not_true, not_false_iff, reduceCtorEq, forall_const, false_imp_iff, true_imp_iff, true_or, or_true, false_or, or_false, l.r49_2, l.r49_4, l.r49_5, l.r49_6, l.r49_7, l.r49_8, l.r49_9, l.r49_10, l.r49_12, l.r49_14, l.r49_15, l.r49_16, l.r49_18, l.r49_19, l.r49_20, l.r49_21, l.r49_22, l.r49_23, l.r49_24, l.r49_34, l.r49_35, l.r49_36, l.r49_37, l.r49_38, l.r49_39, l.r49_40, l.r49_41, l.r49_42, l.r49_43, l.r49_44, l.r49_46, l.r49_47, l.r49_48, l.r49_49, l.r49_50, l.r49_51, l.r49_59, l.r49_60, l.r49_61, l.r49_62, l.r49_63, l.r49_64, l.r49_66, l.r49_67, l.r49_68, l.r49_69, l.r49_70, l.r49_74, l.r49_80, l.r49_81, l.r49_82, l.r49_83, l.r49_85, l.r49_86, l.r49_87, l.r49_88, l.r49_89, l.s49, l.s50, l.s51, l.s52, l.s53, l.s54, l.s55, l.s56, l.s57, l.s58, l.s59, l.s60, l.s61, l.s62, l.s63, l.s64, l.s65, l.s66, l.s67, l.s68, l.s69, l.s70, l.s71, l.s72, l.s73, l.s74, l.s75, l.s76, l.s77, l.s78, l.s79, l.s80, l.s81, l.s82, l.s83, l.s84, l.s85, l.s86, l.s87, l.s88, l.s89, l.s90, l.s91, l.s92, l.s93, l.s94, l.s95, l.s96, l.s97, l.s98, l.s99, l.s100, l.s101, l.s102, l.s103, l.s104, l.s105, l.s106, n1_0, m1neg, ne_eq, nle2, n24, n10, nle, b10, b11, am1, n0m1, Int32.add_zero, Int32.zero_add, ite_true, ite_false, Bool.and_eq_true, nI_m4, nI_m5, nI_m8, nI_m10, nI_m12, nI_m24, nI_m31, nI_m40, nI_m60, nI_m81, nI_m161, nI_m170, nI_p2, nI_p3, nI_p4, nI_p5, nI_p6, nI_pred, nI_leI, nI_ltI, nI_eq, nI_clamp, nI_neg, nI_ge0, nI_neg1, nI_1, nI_add, nI_mul, dle, decide_true, decide_false, Bool.not_true, Bool.not_false, decide_eq_true_eq, e72, step0, c10, c2]
      refine wp_mono wc ?_
      rintro v h2 ⟨rfl, s2, e2, -⟩
      have s3 := s.trans s2
      have e3 := e2.trans e78
      have l := l.sm s2
      have d1 := (s3.2.1 73 (81 * t + j) (fun _ => rfl)).trans b1
      have d2 := c174 h2 s3
      have d3 := c175 h2 s3
      have no : lineCounts F ln = false → wp (K (nI (offP p j + ln.2.1.length + ln.2.2.length)) (nI (81 * t + j + 1)) h2) (fun v h' => v = res.1 ∧ hI h' 49 45 = res.2 ∧ Sm h h') := fun hl => by
        rw [if_neg (by rw [hl]; decide)] at hr
        have := ih h2 s3 e3 hr
        rw [hoff] at this
        exact this
      have hlc : lineCounts F ln = (decide (valI F ln.2.1 ≠ 0) == (ln.1 == 1)) := by unfold lineCounts; simp [z]
      have i1 : (nI ln.1 = 1) = (ln.1 = 1) := propext (nI_eq (b := 1) (by omega) (by omega))
      have yes := yes h2 s3 e3
      rw [hlc] at yes no
      simp (config := {maxSteps := 5000000}) (disch := omega) only [↓reduceIte, ↓wp_some, ↓wp_none, wp_ite, ↓wp_cl, ↓wp_rz, ↓wp_nz, ↓wp_nzL, ↓wp_fI, ↓wp_fL, ↓wp_fR, ↓wp_pI, ↓wp_pL, ↓wp_pR, ↓wp_pZ, ↓wp_aI, ↓wp_aL, ↓wp_aR, ↓wp_bI, ↓wp_bL, ↓wp_bR, ↓wp_rO, ↓wp_cO, ↓wp_nO, ↓wp_iO, ↓wp_tbI, ↓wp_tbL, ↓wp_jn, q_okT, q_okA, q_gI, q_gL, q_gR, q_sI, q_sL, q_sR, q_SI, q_SL, q_SR, q_II, q_IL, q_IR, q_LI, q_LL, q_LR, q_RI, q_RL, q_RR, List.contains_cons, List.contains_nil, Nat.reduceBEq, Nat.reduceEqDiff, beq_self_eq_true, Bool.or_false, Bool.false_or, Bool.true_or, Bool.or_true, Bool.and_true, Bool.true_and, Bool.false_and, Bool.and_false, if_true, if_false, Bool.false_eq_true, true_and, and_true, false_and, and_false, and_self, not_true, not_false_iff, reduceCtorEq, forall_const, false_imp_iff, true_imp_iff, true_or, or_true, false_or, or_false, l.r49_2, l.r49_4, l.r49_5, l.r49_6, l.r49_7, l.r49_8, l.r49_9, l.r49_10, l.r49_12, l.r49_14, l.r49_15, l.r49_16, l.r49_18, l.r49_19, l.r49_20, l.r49_21, l.r49_22, l.r49_23, l.r49_24, l.r49_34, l.r49_35, l.r49_36, l.r49_37, l.r49_38, l.r49_39, l.r49_40, l.r49_41, l.r49_42, l.r49_43, l.r49_44, l.r49_46, l.r49_47, l.r49_48, l.r49_49, l.r49_50, l.r49_51, l.r49_59, l.r49_60, l.r49_61, l.r49_62, l.r49_63, l.r49_64, l.r49_66, l.r49_67, l.r49_68, l.r49_69, l.r49_70, l.r49_74, l.r49_80, l.r49_81, l.r49_82, l.r49_83, l.r49_85, l.r49_86, l.r49_87, l.r49_88, l.r49_89, l.s49, l.s50, l.s51, l.s52, l.s53, l.s54, l.s55, l.s56, l.s57, l.s58, l.s59, l.s60, l.s61, l.s62, l.s63, l.s64, l.s65, l.s66, l.s67, l.s68, l.s69, l.s70, l.s71, l.s72, l.s73, l.s74, l.s75, l.s76, l.s77, l.s78, l.s79, l.s80, l.s81, l.s82, l.s83, l.s84, l.s85, l.s86, l.s87, l.s88, l.s89, l.s90, l.s91, l.s92, l.s93, l.s94, l.s95, l.s96, l.s97, l.s98, l.s99, l.s100, l.s101, l.s102, l.s103, l.s104, l.s105, l.s106, n1_0, m1neg, ne_eq, nle2, n24, n10, nle, b10, b11, am1, n0m1, Int32.add_zero, Int32.zero_add, ite_true, ite_false, Bool.and_eq_true, nI_m4, nI_m5, nI_m8, nI_m10, nI_m12, nI_m24, nI_m31, nI_m40, nI_m60, nI_m81, nI_m161, nI_m170, nI_p2, nI_p3, nI_p4, nI_p5, nI_p6, nI_pred, nI_leI, nI_ltI, nI_eq, nI_clamp, nI_neg, nI_ge0, nI_neg1, nI_1, nI_add, nI_mul, dle, decide_true, decide_false, Bool.not_true, Bool.not_false, decide_eq_true_eq, d1, d2, d3, hsub, q_ne, i1]
      by_cases y1 : valI F ln.2.1 = 0 <;> by_cases y2 : ln.1 = 1 <;> simp [y1, y2] at yes no ⊢ <;> assumption
theorem force_lt {w : AH} {use d k : Int32} {t : Nat} (e : force_ w use d k = some t) : t < nT w := by
  unfold force_ at e
  have : ∀ m, lastOf (fun t => decide (hI w 69 t = use ∧ hI w 70 t ≤ k ∧ hI w 71 t ≤ d)) some none m = some t → t < m := fun m => by
    induction m with
    | zero => intro q; cases q
    | succ m ih =>
      intro q
      have q : (if decide (hI w 69 m = use ∧ hI w 70 m ≤ k ∧ hI w 71 m ≤ d) = true then some m else lastOf (fun t => decide (hI w 69 t = use ∧ hI w 70 t ≤ k ∧ hI w 71 t ≤ d)) some none m) = some t := q
      split at q
      · cases q; omega
      · have := ih q; omega
  exact this _ e
theorem t_X12_forceOf {h w : AH} (m : RM h w) (n : WN w) (use d k : Int32) : wp (f_X12_forceOf (some 49) use d k h) (fun r h' => r = (match force_ w use d k with | none => -2 | some t => nI t) ∧ h' = h) := by
  have l := m.1
  have hn := n.t20
  unfold f_X12_forceOf
  have hlt := fun t => force_lt (w := w) (use := use) (d := d) (k := k) (t := t)
  unfold force_ at hlt ⊢
  generalize hp : (fun t => decide (hI w 69 t = use ∧ hI w 70 t ≤ k ∧ hI w 71 t ≤ d)) = p at hlt ⊢
  refine wp_g2 (nT w) (fun j x1 x2 => x2 = nI j ∧ x1 = oI (lastOf p some none j)) ⟨rfl, rfl⟩ (by omega) ?_ ?_
  · rintro G x1 x2 ⟨rfl, rfl⟩
    generalize lastOf p some none (nT w) = o at hlt ⊢
    cases o with
    | none => simp (config := {maxSteps := 5000000}) (disch := omega) only [↓reduceIte, ↓wp_some, ↓wp_none, wp_ite, ↓wp_cl, ↓wp_rz, ↓wp_nz, ↓wp_nzL, ↓wp_fI, ↓wp_fL, ↓wp_fR, ↓wp_pI, ↓wp_pL, ↓wp_pR, ↓wp_pZ, ↓wp_aI, ↓wp_aL, ↓wp_aR, ↓wp_bI, ↓wp_bL, ↓wp_bR, ↓wp_rO, ↓wp_cO, ↓wp_nO, ↓wp_iO, ↓wp_tbI, ↓wp_tbL, ↓wp_jn, q_okT, q_okA, q_gI, q_gL, q_gR, q_sI, q_sL, q_sR, q_SI, q_SL, q_SR, q_II, q_IL, q_IR, q_LI, q_LL, q_LR, q_RI, q_RL, q_RR, List.contains_cons, List.contains_nil, Nat.reduceBEq, Nat.reduceEqDiff, beq_self_eq_true, Bool.or_false, Bool.false_or, Bool.true_or, Bool.or_true, Bool.and_true, Bool.true_and, Bool.false_and, Bool.and_false, if_true, if_false, Bool.false_eq_true, true_and, and_true, false_and, and_false, and_self, not_true, not_false_iff, reduceCtorEq, forall_const, false_imp_iff, true_imp_iff, true_or, or_true, false_or, or_false, l.r49_2, l.r49_4, l.r49_5, l.r49_6, l.r49_7, l.r49_8, l.r49_9, l.r49_10, l.r49_12, l.r49_14, l.r49_15, l.r49_16, l.r49_18, l.r49_19, l.r49_20, l.r49_21, l.r49_22, l.r49_23, l.r49_24, l.r49_34, l.r49_35, l.r49_36, l.r49_37, l.r49_38, l.r49_39, l.r49_40, l.r49_41, l.r49_42, l.r49_43, l.r49_44, l.r49_46, l.r49_47, l.r49_48, l.r49_49, l.r49_50, l.r49_51, l.r49_59, l.r49_60, l.r49_61, l.r49_62, l.r49_63, l.r49_64, l.r49_66, l.r49_67, l.r49_68, l.r49_69, l.r49_70, l.r49_74, l.r49_80, l.r49_81, l.r49_82, l.r49_83, l.r49_85, l.r49_86, l.r49_87, l.r49_88, l.r49_89, l.s49, l.s50, l.s51, l.s52, l.s53, l.s54, l.s55, l.s56, l.s57, l.s58, l.s59, l.s60, l.s61, l.s62, l.s63, l.s64, l.s65, l.s66, l.s67, l.s68, l.s69, l.s70, l.s71, l.s72, l.s73, l.s74, l.s75, l.s76, l.s77, l.s78, l.s79, l.s80, l.s81, l.s82, l.s83, l.s84, l.s85, l.s86, l.s87, l.s88, l.s89, l.s90, l.s91, l.s92, l.s93, l.s94, l.s95, l.s96, l.s97, l.s98, l.s99, l.s100, l.s101, l.s102, l.s103, l.s104, l.s105, l.s106, m.i50, m.i51, m.i52, m.i53, m.i54, m.i55, m.i56, m.i57, m.i58, m.i59, m.i60, m.i61, m.i62, m.i63, m.i64, m.i65, m.i66, m.i67, m.i68, m.i69, m.i70, m.i71, m.i80, m.i81, m.i82, m.i83, m.i84, m.i86, m.i87, m.i88, m.i89, m.i90, m.i92, m.i93, m.i94, m.i97, m.i98, m.i102, m.i103, m.i104, m.i105, m.f1, m.f3, m.f11, m.f13, m.f17, m.f25, m.f33, m.f65, m.f75, m.f76, m.f84, n1_0, m1neg, ne_eq, nle2, n24, n10, nle, b10, b11, am1, n0m1, Int32.add_zero, Int32.zero_add, ite_true, ite_false, Bool.and_eq_true, nI_m4, nI_m5, nI_m8, nI_m10, nI_m12, nI_m24, nI_m31, nI_m40, nI_m60, nI_m81, nI_m161, nI_m170, nI_p2, nI_p3, nI_p4, nI_p5, nI_p6, nI_pred, nI_leI, nI_ltI, nI_eq, nI_clamp, nI_neg, nI_ge0, nI_neg1, nI_1, nI_add, nI_mul, dle, decide_true, decide_false, Bool.not_true, Bool.not_false, decide_eq_true_eq, n.t, Nat.le_refl, oI, show ((0 : Int32) ≤ -1) = False from eq_false (by decide)]
    | some t =>
      have := hlt t rfl
      simp (config := {maxSteps := 5000000}) (disch := omega) only [↓reduceIte, ↓wp_some, ↓wp_none, wp_ite, ↓wp_cl, ↓wp_rz, ↓wp_nz, ↓wp_nzL, ↓wp_fI, ↓wp_fL, ↓wp_fR, ↓wp_pI, ↓wp_pL, ↓wp_pR, ↓wp_pZ, ↓wp_aI, ↓wp_aL, ↓wp_aR, ↓wp_bI, ↓wp_bL, ↓wp_bR, ↓wp_rO, ↓wp_cO, ↓wp_nO, ↓wp_iO, ↓wp_tbI, ↓wp_tbL, ↓wp_jn, q_okT, q_okA, q_gI, q_gL, q_gR, q_sI, q_sL, q_sR, q_SI, q_SL, q_SR, q_II, q_IL, q_IR, q_LI, q_LL, q_LR, q_RI, q_RL, q_RR, List.contains_cons, List.contains_nil, Nat.reduceBEq, Nat.reduceEqDiff, beq_self_eq_true, Bool.or_false, Bool.false_or, Bool.true_or, Bool.or_true, Bool.and_true, Bool.true_and, Bool.false_and, Bool.and_false, if_true, if_false, Bool.false_eq_true, true_and, and_true, false_and, and_false, and_self, not_true, not_false_iff, reduceCtorEq, forall_const, false_imp_iff, true_imp_iff, true_or, or_true, false_or, or_false, l.r49_2, l.r49_4, l.r49_5, l.r49_6, l.r49_7, l.r49_8, l.r49_9, l.r49_10, l.r49_12, l.r49_14, l.r49_15, l.r49_16, l.r49_18, l.r49_19, l.r49_20, l.r49_21, l.r49_22, l.r49_23, l.r49_24, l.r49_34, l.r49_35, l.r49_36, l.r49_37, l.r49_38, l.r49_39, l.r49_40, l.r49_41, l.r49_42, l.r49_43, l.r49_44, l.r49_46, l.r49_47, l.r49_48, l.r49_49, l.r49_50, l.r49_51, l.r49_59, l.r49_60, l.r49_61, l.r49_62, l.r49_63, l.r49_64, l.r49_66, l.r49_67, l.r49_68, l.r49_69, l.r49_70, l.r49_74, l.r49_80, l.r49_81, l.r49_82, l.r49_83, l.r49_85, l.r49_86, l.r49_87, l.r49_88, l.r49_89, l.s49, l.s50, l.s51, l.s52, l.s53, l.s54, l.s55, l.s56, l.s57, l.s58, l.s59, l.s60, l.s61, l.s62, l.s63, l.s64, l.s65, l.s66, l.s67, l.s68, l.s69, l.s70, l.s71, l.s72, l.s73, l.s74, l.s75, l.s76, l.s77, l.s78, l.s79, l.s80, l.s81, l.s82, l.s83, l.s84, l.s85, l.s86, l.s87, l.s88, l.s89, l.s90, l.s91, l.s92, l.s93, l.s94, l.s95, l.s96, l.s97, l.s98, l.s99, l.s100, l.s101, l.s102, l.s103, l.s104, l.s105, l.s106, m.i50, m.i51, m.i52, m.i53, m.i54, m.i55, m.i56, m.i57, m.i58, m.i59, m.i60, m.i61, m.i62, m.i63, m.i64, m.i65, m.i66, m.i67, m.i68, m.i69, m.i70, m.i71, m.i80, m.i81, m.i82, m.i83, m.i84, m.i86, m.i87, m.i88, m.i89, m.i90, m.i92, m.i93, m.i94, m.i97, m.i98, m.i102, m.i103, m.i104, m.i105, m.f1, m.f3, m.f11, m.f13, m.f17, m.f25, m.f33, m.f65, m.f75, m.f76, m.f84, n1_0, m1neg, ne_eq, nle2, n24, n10, nle, b10, b11, am1, n0m1, Int32.add_zero, Int32.zero_add, ite_true, ite_false, Bool.and_eq_true, nI_m4, nI_m5, nI_m8, nI_m10, nI_m12, nI_m24, nI_m31, nI_m40, nI_m60, nI_m81, nI_m161, nI_m170, nI_p2, nI_p3, nI_p4, nI_p5, nI_p6, nI_pred, nI_leI, nI_ltI, nI_eq, nI_clamp, nI_neg, nI_ge0, nI_neg1, nI_1, nI_add, nI_mul, dle, decide_true, decide_false, Bool.not_true, Bool.not_false, decide_eq_true_eq, n.t, Nat.le_refl, oI]
  · rintro G j x1 x2 hj ⟨rfl, rfl⟩ ih
    replace ih := ih _ _ ⟨rfl, rfl⟩
    have hpj : p j = decide (hI w 69 j = use ∧ hI w 70 j ≤ k ∧ hI w 71 j ≤ d) := by rw [← hp]
    simp only [lastOf, hpj] at ih
    simp (config := {maxSteps := 5000000}) (disch := omega) only [↓reduceIte, ↓wp_some, ↓wp_none, wp_ite, ↓wp_cl, ↓wp_rz, ↓wp_nz, ↓wp_nzL, ↓wp_fI, ↓wp_fL, ↓wp_fR, ↓wp_pI, ↓wp_pL, ↓wp_pR, ↓wp_pZ, ↓wp_aI, ↓wp_aL, ↓wp_aR, ↓wp_bI, ↓wp_bL, ↓wp_bR, ↓wp_rO, ↓wp_cO, ↓wp_nO, ↓wp_iO, ↓wp_tbI, ↓wp_tbL, ↓wp_jn, q_okT, q_okA, q_gI, q_gL, q_gR, q_sI, q_sL, q_sR, q_SI, q_SL, q_SR, q_II, q_IL, q_IR, q_LI, q_LL, q_LR, q_RI, q_RL, q_RR, List.contains_cons, List.contains_nil, Nat.reduceBEq, Nat.reduceEqDiff, beq_self_eq_true, Bool.or_false, Bool.false_or, Bool.true_or, Bool.or_true, Bool.and_true, Bool.true_and, Bool.false_and, Bool.and_false, if_true, if_false, Bool.false_eq_true, true_and, and_true, false_and, and_false, and_self, not_true, not_false_iff, reduceCtorEq, forall_const, false_imp_iff, true_imp_iff, true_or, or_true, false_or, or_false, l.r49_2, l.r49_4, l.r49_5, l.r49_6, l.r49_7, l.r49_8, l.r49_9, l.r49_10, l.r49_12, l.r49_14, l.r49_15, l.r49_16, l.r49_18, l.r49_19, l.r49_20, l.r49_21, l.r49_22, l.r49_23, l.r49_24, l.r49_34, l.r49_35, l.r49_36, l.r49_37, l.r49_38, l.r49_39, l.r49_40, l.r49_41, l.r49_42, l.r49_43, l.r49_44, l.r49_46, l.r49_47, l.r49_48, l.r49_49, l.r49_50, l.r49_51, l.r49_59, l.r49_60, l.r49_61, l.r49_62, l.r49_63, l.r49_64, l.r49_66, l.r49_67, l.r49_68, l.r49_69, l.r49_70, l.r49_74, l.r49_80, l.r49_81, l.r49_82, l.r49_83, l.r49_85, l.r49_86, l.r49_87, l.r49_88, l.r49_89, l.s49, l.s50, l.s51, l.s52, l.s53, l.s54, l.s55, l.s56, l.s57, l.s58, l.s59, l.s60, l.s61, l.s62, l.s63, l.s64, l.s65, l.s66, l.s67, l.s68, l.s69, l.s70, l.s71, l.s72, l.s73, l.s74, l.s75, l.s76, l.s77, l.s78, l.s79, l.s80, l.s81, l.s82, l.s83, l.s84, l.s85, l.s86, l.s87, l.s88, l.s89, l.s90, l.s91, l.s92, l.s93, l.s94, l.s95, l.s96, l.s97, l.s98, l.s99, l.s100, l.s101, l.s102, l.s103, l.s104, l.s105, l.s106, m.i50, m.i51, m.i52, m.i53, m.i54, m.i55, m.i56, m.i57, m.i58, m.i59, m.i60, m.i61, m.i62, m.i63, m.i64, m.i65, m.i66, m.i67, m.i68, m.i69, m.i70, m.i71, m.i80, m.i81, m.i82, m.i83, m.i84, m.i86, m.i87, m.i88, m.i89, m.i90, m.i92, m.i93, m.i94, m.i97, m.i98, m.i102, m.i103, m.i104, m.i105, m.f1, m.f3, m.f11, m.f13, m.f17, m.f25, m.f33, m.f65, m.f75, m.f76, m.f84, n1_0, m1neg, ne_eq, nle2, n24, n10, nle, b10, b11, am1, n0m1, Int32.add_zero, Int32.zero_add, ite_true, ite_false, Bool.and_eq_true, nI_m4, nI_m5, nI_m8, nI_m10, nI_m12, nI_m24, nI_m31, nI_m40, nI_m60, nI_m81, nI_m161, nI_m170, nI_p2, nI_p3, nI_p4, nI_p5, nI_p6, nI_pred, nI_leI, nI_ltI, nI_eq, nI_clamp, nI_neg, nI_ge0, nI_neg1, nI_1, nI_add, nI_mul, dle, decide_true, decide_false, Bool.not_true, Bool.not_false, decide_eq_true_eq, n.t]
    have e1 : oI (some j) = nI j := rfl
    grind
theorem t_X6_ruleFor {h w : AH} {P : Nat → Prog} {ad : Nat → Nat} (R : RC h w P ad) (n : WN w) (use d k : Int32) : wp (f_X6_ruleFor (some 8) use d k h) (fun r h' => r = oI (force_ w use d k) ∧ h' = h) := by
  have l := R.l
  have hn := n.t20
  unfold f_X6_ruleFor force_
  generalize hp : (fun t => decide (hI w 69 t = use ∧ hI w 70 t ≤ k ∧ hI w 71 t ≤ d)) = p
  simp (config := {maxSteps := 5000000}) (disch := omega) only [↓wp_fI, q_okT, q_gI, l.r0_0, l.r0_1, l.r0_2, l.r0_3, l.r0_4, l.r0_5, l.r1_1, l.r1_2, l.r1_4, l.r1_6, l.r1_7, l.r1_8, l.r8_0, l.r8_3, l.r8_4, l.r8_5, l.r8_6, l.r8_7, l.r8_8, l.r8_9, l.r9_1, l.r9_2, l.r9_3, l.r9_4, l.r9_9, l.r21_0, l.r21_1, l.r21_3, l.r21_4, l.r21_5, l.r21_6, l.r21_7, l.r21_8, l.r28_3, l.r28_4, l.r28_5, l.r28_6, l.r28_7, l.r28_9, l.r35_0, l.r35_1, l.r35_2, l.r35_3, l.r35_4, l.r35_5, l.r36_4, l.r38_4, l.r40_4, l.r42_4, l.r44_4, l.r46_4, l.s0, l.s1, l.s2, l.s3, l.s4, l.s5, l.s6, l.s7, l.s8, l.s9, l.s10, l.s11, l.s12, l.s13, l.s14, l.s15, l.s16, l.s17, l.s18, l.s19, l.s20, l.s21, l.s22, l.s23, l.s24, l.s25, l.s26, l.s27, l.s28, l.s29, l.s30, l.s31, l.s32, l.s33, l.s34, l.s35, l.s36, l.s37, l.s38, l.s39, l.s40, l.s41, l.s42, l.s43, l.s44, l.s45, l.s46, l.s47, l.s48, R.td, R.st, R.i4, R.mv, R.i5, R.i6, R.i7, R.lg, R.i22, R.i23, R.i25, R.i26, R.md, R.i15, R.i16, R.i17, R.tp, R.wi, R.i31, R.i32, R.wh, R.wc, R.i29, R.tc, R.bn, n.t, List.contains_cons, List.contains_nil, beq_self_eq_true, Bool.or_false, true_and]
  refine wp_d1 (nT w) (fun j x => x = nI j - 1 ∧ lastOf p some none (nT w) = lastOf p some none j) ⟨rfl, rfl⟩ (by omega) ?_ ?_
  · rintro G x ⟨rfl, e⟩
    rw [e]
    simp (config := {maxSteps := 5000000}) (disch := omega) only [↓reduceIte, ↓wp_some, ↓wp_none, wp_ite, ↓wp_cl, ↓wp_rz, ↓wp_nz, ↓wp_nzL, ↓wp_fI, ↓wp_fL, ↓wp_fR, ↓wp_pI, ↓wp_pL, ↓wp_pR, ↓wp_pZ, ↓wp_aI, ↓wp_aL, ↓wp_aR, ↓wp_bI, ↓wp_bL, ↓wp_bR, ↓wp_rO, ↓wp_cO, ↓wp_nO, ↓wp_iO, ↓wp_tbI, ↓wp_tbL, ↓wp_jn, q_okT, q_okA, q_gI, q_gL, q_gR, q_sI, q_sL, q_sR, q_SI, q_SL, q_SR, q_II, q_IL, q_IR, q_LI, q_LL, q_LR, q_RI, q_RL, q_RR, List.contains_cons, List.contains_nil, Nat.reduceBEq, Nat.reduceEqDiff, beq_self_eq_true, Bool.or_false, Bool.false_or, Bool.true_or, Bool.or_true, Bool.and_true, Bool.true_and, Bool.false_and, Bool.and_false, if_true, if_false, Bool.false_eq_true, true_and, and_true, false_and, and_false, and_self, not_true, not_false_iff, reduceCtorEq, forall_const, false_imp_iff, true_imp_iff, true_or, or_true, false_or, or_false, n1_0, m1neg, ne_eq, nle2, n24, n10, nle, b10, b11, am1, n0m1, Int32.add_zero, Int32.zero_add, ite_true, ite_false, Bool.and_eq_true, nI_m4, nI_m5, nI_m8, nI_m10, nI_m12, nI_m24, nI_m31, nI_m40, nI_m60, nI_m81, nI_m161, nI_m170, nI_p2, nI_p3, nI_p4, nI_p5, nI_p6, nI_pred, nI_leI, nI_ltI, nI_eq, nI_clamp, nI_neg, nI_ge0, nI_neg1, nI_1, nI_add, nI_mul, dle, decide_true, decide_false, Bool.not_true, Bool.not_false, decide_eq_true_eq, lastOf, oI]
  · rintro G j x hj ⟨rfl, e⟩ ih
    have ih := ih (nI j - 1)
    have hpj : p j = decide (hI w 69 j = use ∧ hI w 70 j ≤ k ∧ hI w 71 j ≤ d) := by rw [← hp]
    simp (config := {maxSteps := 5000000}) (disch := omega) only [lastOf, hpj, ↓reduceIte, ↓wp_some, ↓wp_none, wp_ite, ↓wp_cl, ↓wp_rz, ↓wp_nz, ↓wp_nzL, ↓wp_fI, ↓wp_fL, ↓wp_fR, ↓wp_pI, ↓wp_pL, ↓wp_pR, ↓wp_pZ, ↓wp_aI, ↓wp_aL, ↓wp_aR, ↓wp_bI, ↓wp_bL, ↓wp_bR, ↓wp_rO, ↓wp_cO, ↓wp_nO, ↓wp_iO, ↓wp_tbI, ↓wp_tbL, ↓wp_jn, q_okT, q_okA, q_gI, q_gL, q_gR, q_sI, q_sL, q_sR, q_SI, q_SL, q_SR, q_II, q_IL, q_IR, q_LI, q_LL, q_LR, q_RI, q_RL, q_RR, List.contains_cons, List.contains_nil, Nat.reduceBEq, Nat.reduceEqDiff, beq_self_eq_true, Bool.or_false, Bool.false_or, Bool.true_or, Bool.or_true, Bool.and_true, Bool.true_and, Bool.false_and, Bool.and_false, if_true, if_false, Bool.false_eq_true, true_and, and_true, false_and, and_false, and_self, not_true, not_false_iff, reduceCtorEq, forall_const, false_imp_iff, true_imp_iff, true_or, or_true, false_or, or_false, l.r0_0, l.r0_1, l.r0_2, l.r0_3, l.r0_4, l.r0_5, l.r1_1, l.r1_2, l.r1_4, l.r1_6, l.r1_7, l.r1_8, l.r8_0, l.r8_3, l.r8_4, l.r8_5, l.r8_6, l.r8_7, l.r8_8, l.r8_9, l.r9_1, l.r9_2, l.r9_3, l.r9_4, l.r9_9, l.r21_0, l.r21_1, l.r21_3, l.r21_4, l.r21_5, l.r21_6, l.r21_7, l.r21_8, l.r28_3, l.r28_4, l.r28_5, l.r28_6, l.r28_7, l.r28_9, l.r35_0, l.r35_1, l.r35_2, l.r35_3, l.r35_4, l.r35_5, l.r36_4, l.r38_4, l.r40_4, l.r42_4, l.r44_4, l.r46_4, l.s0, l.s1, l.s2, l.s3, l.s4, l.s5, l.s6, l.s7, l.s8, l.s9, l.s10, l.s11, l.s12, l.s13, l.s14, l.s15, l.s16, l.s17, l.s18, l.s19, l.s20, l.s21, l.s22, l.s23, l.s24, l.s25, l.s26, l.s27, l.s28, l.s29, l.s30, l.s31, l.s32, l.s33, l.s34, l.s35, l.s36, l.s37, l.s38, l.s39, l.s40, l.s41, l.s42, l.s43, l.s44, l.s45, l.s46, l.s47, l.s48, R.td, R.st, R.i4, R.mv, R.i5, R.i6, R.i7, R.lg, R.i22, R.i23, R.i25, R.i26, R.md, R.i15, R.i16, R.i17, R.tp, R.wi, R.i31, R.i32, R.wh, R.wc, R.i29, R.tc, R.bn, n1_0, m1neg, ne_eq, nle2, n24, n10, nle, b10, b11, am1, n0m1, Int32.add_zero, Int32.zero_add, ite_true, ite_false, Bool.and_eq_true, nI_m4, nI_m5, nI_m8, nI_m10, nI_m12, nI_m24, nI_m31, nI_m40, nI_m60, nI_m81, nI_m161, nI_m170, nI_p2, nI_p3, nI_p4, nI_p5, nI_p6, nI_pred, nI_leI, nI_ltI, nI_eq, nI_clamp, nI_neg, nI_ge0, nI_neg1, nI_1, nI_add, nI_mul, dle, decide_true, decide_false, Bool.not_true, Bool.not_false, decide_eq_true_eq] at e ⊢
    have e1 : oI (some j) = nI j := rfl
    grind
def unr_ (use : Int32) : Int32 := if use = 0 then 2 else if use = 1 then 1 else if use = 2 then 1 else if use = 3 then 0 else if use = 4 then 1 else 0
def clamp_ (v : Int32) : Int32 := if v < 0 then 0 else if 15 < v then 15 else v
theorem t_X6_answer {h w : AH} {P : Nat → Prog} {ad : Nat → Nat} (R : RC h w P ad) (n : WN w) (U : WP w) (WGP : WG w P) {day : Int32} {f b : Option Nat} {kind cell hour : Int32} (A : Asked h ad day f b kind cell hour) (hf : okF w f) (hb : okB w b) (use d : Int32) (hu : 0 ≤ use) : wp (f_X6_answer (some 8) use d h) (fun r h' => r = (if use = 0 then clamp_ (ans_ w P use d (fx w day f b kind cell hour) (unr_ use)).1 else (ans_ w P use d (fx w day f b kind cell hour) (unr_ use)).1) ∧ hI h' 8 2 = (ans_ w P use d (fx w day f b kind cell hour) (unr_ use)).2 ∧ Sc h h') := by
  have l := R.l
  have hn := n.t20
  unfold f_X6_answer ans_
  have hlt := fun t => force_lt (w := w) (use := use) (d := d) (k := hI w 49 1) (t := t)
  simp only [↓reduceIte, ↓wp_some, ↓wp_none, wp_ite, ↓wp_cl, ↓wp_rz, ↓wp_nz, ↓wp_nzL, ↓wp_fI, ↓wp_fL, ↓wp_fR, ↓wp_pI, ↓wp_pL, ↓wp_pR, ↓wp_pZ, ↓wp_aI, ↓wp_aL, ↓wp_aR, ↓wp_bI, ↓wp_bL, ↓wp_bR, ↓wp_rO, ↓wp_cO, ↓wp_nO, ↓wp_iO, ↓wp_tbI, ↓wp_tbL, ↓wp_jn, q_okT, q_okA, q_gI, q_gL, q_gR, q_sI, q_sL, q_sR, q_SI, q_SL, q_SR, q_II, q_IL, q_IR, q_LI, q_LL, q_LR, q_RI, q_RL, q_RR, List.contains_cons, List.contains_nil, Nat.reduceBEq, Nat.reduceEqDiff, beq_self_eq_true, Bool.or_false, Bool.false_or, Bool.true_or, Bool.or_true, Bool.and_true, Bool.true_and, Bool.false_and, Bool.and_false, if_true, if_false, Bool.false_eq_true, true_and, and_true, false_and, and_false, and_self, not_true, not_false_iff, reduceCtorEq, forall_const, false_imp_iff, true_imp_iff, true_or, or_true, false_or, or_false, l.r0_0, l.r0_1, l.r0_2, l.r0_3, l.r0_4, l.r0_5, l.r1_1, l.r1_2, l.r1_4, l.r1_6, l.r1_7, l.r1_8, l.r8_0, l.r8_3, l.r8_4, l.r8_5, l.r8_6, l.r8_7, l.r8_8, l.r8_9, l.r9_1, l.r9_2, l.r9_3, l.r9_4, l.r9_9, l.r21_0, l.r21_1, l.r21_3, l.r21_4, l.r21_5, l.r21_6, l.r21_7, l.r21_8, l.r28_3, l.r28_4, l.r28_5, l.r28_6, l.r28_7, l.r28_9, l.r35_0, l.r35_1, l.r35_2, l.r35_3, l.r35_4, l.r35_5, l.r36_4, l.r38_4, l.r40_4, l.r42_4, l.r44_4, l.r46_4, l.s0, l.s1, l.s2, l.s3, l.s4, l.s5, l.s6, l.s7, l.s8, l.s9, l.s10, l.s11, l.s12, l.s13, l.s14, l.s15, l.s16, l.s17, l.s18, l.s19, l.s20, l.s21, l.s22, l.s23, l.s24, l.s25, l.s26, l.s27, l.s28, l.s29, l.s30, l.s31, l.s32, l.s33, l.s34, l.s35, l.s36, l.s37, l.s38, l.s39, l.s40, l.s41, l.s42, l.s43, l.s44, l.s45, l.s46, l.s47, l.s48, R.td, R.st, R.i4, R.mv, R.i5, R.i6, R.i7, R.lg, R.i22, R.i23, R.i25, R.i26, R.md, R.i15, R.i16, R.i17, R.tp, R.wi, R.i31, R.i32, R.wh, R.wc, R.i29, R.tc, R.bn, wp_use (t_X6_ruleFor R n _ _ _)]
  generalize force_ w use d (hI w 49 1) = o at hlt ⊢
  cases o with
  | none =>
    have htb : tbUN = [2, 1, 1, 0, 1] := by first | rfl | decide
    have fin : ∀ v, v = unr_ use → (v = (if use = 0 then clamp_ (unr_ use) else unr_ use)) ∧ hI (wI h 8 2 (-1)) 8 2 = -1 ∧ Sc h (wI h 8 2 (-1)) := fun v e => ⟨by
      rw [e]
      by_cases z : use = 0
      · rw [if_pos z, z]; decide
      · rw [if_neg z], q_at, (Sc.refl h).wI 8 2 _ (by decide) rfl⟩
    simp only [oI, show ((0 : Int32) ≤ -1) = False from eq_false (by decide), ↓reduceIte, ↓wp_some, ↓wp_none, wp_ite, ↓wp_cl, ↓wp_rz, ↓wp_nz, ↓wp_nzL, ↓wp_fI, ↓wp_fL, ↓wp_fR, ↓wp_pI, ↓wp_pL, ↓wp_pR, ↓wp_pZ, ↓wp_aI, ↓wp_aL, ↓wp_aR, ↓wp_bI, ↓wp_bL, ↓wp_bR, ↓wp_rO, ↓wp_cO, ↓wp_nO, ↓wp_iO, ↓wp_tbI, ↓wp_tbL, ↓wp_jn, q_okT, q_okA, q_gI, q_gL, q_gR, q_sI, q_sL, q_sR, q_SI, q_SL, q_SR, q_II, q_IL, q_IR, q_LI, q_LL, q_LR, q_RI, q_RL, q_RR, List.contains_cons, List.contains_nil, Nat.reduceBEq, Nat.reduceEqDiff, beq_self_eq_true, Bool.or_false, Bool.false_or, Bool.true_or, Bool.or_true, Bool.and_true, Bool.true_and, Bool.false_and, Bool.and_false, if_true, if_false, Bool.false_eq_true, true_and, and_true, false_and, and_false, and_self, not_true, not_false_iff, reduceCtorEq, forall_const, false_imp_iff, true_imp_iff, true_or, or_true, false_or, or_false]
    by_cases z : use < 5
    · have : use = 0 ∨ use = 1 ∨ use = 2 ∨ use = 3 ∨ use = 4 := by grind
      rcases this with rfl | rfl | rfl | rfl | rfl <;> simp (config := {decide := true}) [htb, unr_, clamp_, q_at] <;> exact (Sc.refl h).wI 8 2 _ (by decide) rfl
    · have e1 : ¬ use < 0 := Int32.not_lt.mpr hu
      have e2 : 5 ≤ use := Int32.not_lt.mp z
      simp only [e1, e2, ↓reduceIte, ↓wp_some, ↓wp_none, wp_ite, ↓wp_cl, ↓wp_rz, ↓wp_nz, ↓wp_nzL, ↓wp_fI, ↓wp_fL, ↓wp_fR, ↓wp_pI, ↓wp_pL, ↓wp_pR, ↓wp_pZ, ↓wp_aI, ↓wp_aL, ↓wp_aR, ↓wp_bI, ↓wp_bL, ↓wp_bR, ↓wp_rO, ↓wp_cO, ↓wp_nO, ↓wp_iO, ↓wp_tbI, ↓wp_tbL, ↓wp_jn, q_okT, q_okA, q_gI, q_gL, q_gR, q_sI, q_sL, q_sR, q_SI, q_SL, q_SR, q_II, q_IL, q_IR, q_LI, q_LL, q_LR, q_RI, q_RL, q_RR, List.contains_cons, List.contains_nil, Nat.reduceBEq, Nat.reduceEqDiff, beq_self_eq_true, Bool.or_false, Bool.false_or, Bool.true_or, Bool.or_true, Bool.and_true, Bool.true_and, Bool.false_and, Bool.and_false, if_true, if_false, Bool.false_eq_true, true_and, and_true, false_and, and_false, and_self, not_true, not_false_iff, reduceCtorEq, forall_const, false_imp_iff, true_imp_iff, true_or, or_true, false_or, or_false]
      have := fin 0 (by unfold unr_; grind)
      exact ⟨this.1, this.2.2⟩
  | some t =>
    have ht := hlt t rfl
    simp (config := {maxSteps := 5000000}) (disch := omega) only [oI, n1_0, m1neg, ne_eq, nle2, n24, n10, nle, b10, b11, am1, n0m1, Int32.add_zero, Int32.zero_add, ite_true, ite_false, Bool.and_eq_true, nI_m4, nI_m5, nI_m8, nI_m10, nI_m12, nI_m24, nI_m31, nI_m40, nI_m60, nI_m81, nI_m161, nI_m170, nI_p2, nI_p3, nI_p4, nI_p5, nI_p6, nI_pred, nI_leI, nI_ltI, nI_eq, nI_clamp, nI_neg, nI_ge0, nI_neg1, nI_1, nI_add, nI_mul, dle, decide_true, decide_false, Bool.not_true, Bool.not_false, decide_eq_true_eq, ↓reduceIte, ↓wp_some, ↓wp_none, wp_ite, ↓wp_cl, ↓wp_rz, ↓wp_nz, ↓wp_nzL, ↓wp_fI, ↓wp_fL, ↓wp_fR, ↓wp_pI, ↓wp_pL, ↓wp_pR, ↓wp_pZ, ↓wp_aI, ↓wp_aL, ↓wp_aR, ↓wp_bI, ↓wp_bL, ↓wp_bR, ↓wp_rO, ↓wp_cO, ↓wp_nO, ↓wp_iO, ↓wp_tbI, ↓wp_tbL, ↓wp_jn, q_okT, q_okA, q_gI, q_gL, q_gR, q_sI, q_sL, q_sR, q_SI, q_SL, q_SR, q_II, q_IL, q_IR, q_LI, q_LL, q_LR, q_RI, q_RL, q_RR, List.contains_cons, List.contains_nil, Nat.reduceBEq, Nat.reduceEqDiff, beq_self_eq_true, Bool.or_false, Bool.false_or, Bool.true_or, Bool.or_true, Bool.and_true, Bool.true_and, Bool.false_and, Bool.and_false, if_true, if_false, Bool.false_eq_true, true_and, and_true, false_and, and_false, and_self, not_true, not_false_iff, reduceCtorEq, forall_const, false_imp_iff, true_imp_iff, true_or, or_true, false_or, or_false]
    refine wp_mono (t_X6_work R n U WGP A hf hb ht) ?_
    rintro r h' ⟨rfl, e, s⟩
    simp only [↓reduceIte, ↓wp_some, ↓wp_none, wp_ite, ↓wp_cl, ↓wp_rz, ↓wp_nz, ↓wp_nzL, ↓wp_fI, ↓wp_fL, ↓wp_fR, ↓wp_pI, ↓wp_pL, ↓wp_pR, ↓wp_pZ, ↓wp_aI, ↓wp_aL, ↓wp_aR, ↓wp_bI, ↓wp_bL, ↓wp_bR, ↓wp_rO, ↓wp_cO, ↓wp_nO, ↓wp_iO, ↓wp_tbI, ↓wp_tbL, ↓wp_jn, q_okT, q_okA, q_gI, q_gL, q_gR, q_sI, q_sL, q_sR, q_SI, q_SL, q_SR, q_II, q_IL, q_IR, q_LI, q_LL, q_LR, q_RI, q_RL, q_RR, List.contains_cons, List.contains_nil, Nat.reduceBEq, Nat.reduceEqDiff, beq_self_eq_true, Bool.or_false, Bool.false_or, Bool.true_or, Bool.or_true, Bool.and_true, Bool.true_and, Bool.false_and, Bool.and_false, if_true, if_false, Bool.false_eq_true, true_and, and_true, false_and, and_false, and_self, not_true, not_false_iff, reduceCtorEq, forall_const, false_imp_iff, true_imp_iff, true_or, or_true, false_or, or_false, e]
    generalize (progV (fx w day f b kind cell hour) (P t) 0).1 = v
    unfold clamp_
    grind
