def cOk (i : Ins) : Prop := i.1 ≤ 16 ∧ (i.1 = 0 → 0 ≤ i.2 ∧ i.2 ≤ 99999) ∧ (i.1 = 1 → 0 ≤ i.2 ∧ i.2 ≤ 10)
theorem insOk.c {i : Ins} (h : insOk i) : cOk i := ⟨by have := h.1; omega, h.2.1, h.2.2⟩
theorem codeP_ok {p : Prog} (hp : ∀ l ∈ p, lineOk l) : ∀ i ∈ codeP p, cOk i := by
  intro i hi
  unfold codeP at hi
  obtain ⟨l, hl, hi⟩ := List.mem_flatMap.mp hi
  obtain ⟨h1, h2, h3, h4, h5, h6⟩ := hp l hl
  unfold codeL at hi
  rw [List.mem_append] at hi
  rcases hi with hi | hi
  · by_cases z : l.1 = 0
    · rw [if_pos z] at hi; cases hi
    · rw [if_neg z, List.mem_append] at hi
      rcases hi with hi | hi
      · exact (h5 i hi).c
      · rw [List.mem_singleton] at hi
        subst hi
        refine ⟨?_, fun q => ?_, fun q => ?_⟩
        · show (if l.1 = 1 then 14 else 15) ≤ 16; split <;> omega
        · exfalso; revert q; show (if l.1 = 1 then 14 else 15) = 0 → False; split <;> omega
        · exfalso; revert q; show (if l.1 = 1 then 14 else 15) = 1 → False; split <;> omega
  · rw [List.mem_append] at hi
    rcases hi with hi | hi
    · exact (h6 i hi).c
    · rw [List.mem_singleton] at hi
      subst hi
      exact ⟨by decide, by decide, by decide⟩
theorem nI_r161 (a : Nat) : nI a * 161 = nI (161 * a) := by rw [Int32.mul_comm]; exact nI_m161 a
theorem drop_cons {α : Type} {c : List α} {j : Nat} {d : α} (hj : j < c.length) : c.drop j = c.getD j d :: c.drop (j + 1) := by
  rw [List.drop_eq_getElem_cons hj]
  congr 1
  simp [List.getD, hj]
theorem getD_mem {α : Type} {c : List α} {j : Nat} {d : α} (hj : j < c.length) : c.getD j d ∈ c := by
  have : c.getD j d = c[j] := by simp [List.getD, hj]
  rw [this]; exact List.getElem_mem hj
theorem Asked.sc {h h1 : AH} {ad : Nat → Nat} {day : Int32} {f b : Option Nat} {kind cell hour : Int32} (A : Asked h ad day f b kind cell hour) (a k : Nat) (v : Int32) (ha : a ≠ 8 ∨ k < 10) (e : h1 = wI h a k v) : Asked h1 ad day f b kind cell hour := by
  subst e
  obtain ⟨a1, a2, a3, a4, a5, a6⟩ := A
  have f : ∀ i, 10 ≤ i → hI (wI h a k v) 8 i = hI h 8 i := fun i hi => by rw [q_II, if_neg (by omega)]
  exact ⟨by rw [f 10 (by omega)]; exact a1, a2, a3, by rw [f 13 (by omega)]; exact a4, by rw [f 14 (by omega)]; exact a5, by rw [f 15 (by omega)]; exact a6⟩
theorem pile_push {h : AH} {q : Pile} (hp : ∀ i, i < q.1 → hI h 20 i = q.2 i) (v : Int32) (i : Nat) (hi : i < q.1 + 1) : hI (wI h 20 q.1 v) 20 i = updN q.2 q.1 v i := by
  rw [q_II]
  unfold updN
  by_cases z : i = q.1
  · rw [if_pos ⟨rfl, z⟩, if_pos z]
  · rw [if_neg (fun y => z y.2), if_neg z]; exact hp i (by omega)
theorem pile_set {h : AH} {q : Pile} (hp : ∀ i, i < q.1 → hI h 20 i = q.2 i) (k : Nat) (v : Int32) (i : Nat) (hi : i < q.1) : hI (wI h 20 k v) 20 i = updN q.2 k v i := by
  rw [q_II]
  unfold updN
  by_cases z : i = k
  · rw [if_pos ⟨rfl, z⟩, if_pos z]
  · rw [if_neg (fun y => z y.2), if_neg z]; exact hp i hi
theorem tag_cases {t : Nat} (h2 : 2 ≤ t) (h3 : t < 12) : t = 2 ∨ t = 3 ∨ t = 4 ∨ t = 5 ∨ t = 6 ∨ t = 7 ∨ t = 8 ∨ t = 9 ∨ t = 10 ∨ t = 11 := by omega
theorem encI_op {i : Ins} (h2 : 2 ≤ i.1) (h3 : i.1 < 12) : encI i = opOf i.1 := by
  rcases tag_cases h2 h3 with e | e | e | e | e | e | e | e | e | e <;> simp only [encI, opOf, e]
theorem opF {t : Nat} (h2 : 2 ≤ t) (h3 : t < 12) : opOf t ≤ -20 ∧ ¬ opOf t = -31 ∧ ¬ opOf t = -32 ∧ ¬ opOf t = -33 ∧ ¬ opOf t = -34 ∧ ¬ opOf t = -35 := by
  rcases tag_cases h2 h3 with rfl | rfl | rfl | rfl | rfl | rfl | rfl | rfl | rfl | rfl <;> decide
theorem t_X6_work {h w : AH} {P : Nat → Prog} {ad : Nat → Nat} (R : RC h w P ad) (n : WN w) (U : WP w) (WGP : WG w P) {day : Int32} {f b : Option Nat} {kind cell hour : Int32} (A : Asked h ad day f b kind cell hour) (hf : okF w f) (hb : okB w b) {t : Nat} (ht : t < nT w) : wp (f_X6_work (some 8) (nI t) h) (fun r h' => r = (progV (fx w day f b kind cell hour) (P t) 0).1 ∧ hI h' 8 2 = (progV (fx w day f b kind cell hour) (P t) 0).2 ∧ Sc h h') := by
  have l := R.l
  have hn := n.t20
  obtain ⟨-, -, -, -, hrow⟩ := R.rr
  obtain ⟨r1, r2, r3⟩ := hrow t ht
  unfold f_X6_work
  simp (config := {maxSteps := 5000000}) (disch := omega) only [↓reduceIte, ↓wp_some, ↓wp_none, wp_ite, ↓wp_cl, ↓wp_rz, ↓wp_nz, ↓wp_nzL, ↓wp_fI, ↓wp_fL, ↓wp_fR, ↓wp_pI, ↓wp_pL, ↓wp_pR, ↓wp_pZ, ↓wp_aI, ↓wp_aL, ↓wp_aR, ↓wp_bI, ↓wp_bL, ↓wp_bR, ↓wp_rO, ↓wp_cO, ↓wp_nO, ↓wp_iO, ↓wp_tbI, ↓wp_tbL, ↓wp_jn, q_okT, q_okA, q_gI, q_gL, q_gR, q_sI, q_sL, q_sR, q_SI, q_SL, q_SR, q_II, q_IL, q_IR, q_LI, q_LL, q_LR, q_RI, q_RL, q_RR, List.contains_cons, List.contains_nil, Nat.reduceBEq, Nat.reduceEqDiff, beq_self_eq_true, Bool.or_false, Bool.false_or, Bool.true_or, Bool.or_true, Bool.and_true, Bool.true_and, Bool.false_and, Bool.and_false, if_true, if_false, Bool.false_eq_true, true_and, and_true, false_and, and_false, and_self, not_true, not_false_iff, reduceCtorEq, forall_const, false_imp_iff, true_imp_iff, true_or, or_true, false_or, or_false, l.r0_0, l.r0_1, l.r0_2, l.r0_3, l.r0_4, l.r0_5, l.r1_1, l.r1_2, l.r1_4, l.r1_6, l.r1_7, l.r1_8, l.r8_0, l.r8_3, l.r8_4, l.r8_5, l.r8_6, l.r8_7, l.r8_8, l.r8_9, l.r9_1, l.r9_2, l.r9_3, l.r9_4, l.r9_9, l.r21_0, l.r21_1, l.r21_3, l.r21_4, l.r21_5, l.r21_6, l.r21_7, l.r21_8, l.r28_3, l.r28_4, l.r28_5, l.r28_6, l.r28_7, l.r28_9, l.r35_0, l.r35_1, l.r35_2, l.r35_3, l.r35_4, l.r35_5, l.r36_4, l.r38_4, l.r40_4, l.r42_4, l.r44_4, l.r46_4, l.s0, l.s1, l.s2, l.s3, l.s4, l.s5, l.s6, l.s7, l.s8, l.s9, l.s10, l.s11, l.s12, l.s13, l.s14, l.s15, l.s16, l.s17, l.s18, l.s19, l.s20, l.s21, l.s22, l.s23, l.s24, l.s25, l.s26, l.s27, l.s28, l.s29, l.s30, l.s31, l.s32, l.s33, l.s34, l.s35, l.s36, l.s37, l.s38, l.s39, l.s40, l.s41, l.s42, l.s43, l.s44, l.s45, l.s46, l.s47, l.s48, R.td, R.st, R.i4, R.mv, R.i5, R.i6, R.i7, R.lg, R.i22, R.i23, R.i25, R.i26, R.md, R.i15, R.i16, R.i17, R.tp, R.wi, R.i31, R.i32, R.wh, R.wc, R.i29, R.tc, R.bn, n.t, n1_0, m1neg, ne_eq, nle2, n24, n10, nle, b10, b11, am1, n0m1, Int32.add_zero, Int32.zero_add, ite_true, ite_false, Bool.and_eq_true, nI_m4, nI_m5, nI_m8, nI_m10, nI_m12, nI_m24, nI_m31, nI_m40, nI_m60, nI_m81, nI_m161, nI_m170, nI_p2, nI_p3, nI_p4, nI_p5, nI_p6, nI_pred, nI_leI, nI_ltI, nI_eq, nI_clamp, nI_neg, nI_ge0, nI_neg1, nI_1, nI_add, nI_mul, dle, decide_true, decide_false, Bool.not_true, Bool.not_false, decide_eq_true_eq, ht, r2, nI_r161, q_ne, q_atne]
  rw [← crun_prog _ _ (WGP t ht)]
  have hck := cchk_prog _ (WGP t ht)
  have hok := codeP_ok (WGP t ht)
  have hlen : (encP (P t)).length = (codeP (P t)).length := by unfold encP; rw [List.length_map]
  rw [hlen] at r1 r3 ⊢
  have hen : ∀ k, k < (codeP (P t)).length → hI h 18 (161 * t + k) = encI ((codeP (P t)).getD k (0, 0)) := fun k hk => by
    rw [r3 k hk]
    unfold encP
    simp [List.getD, hk]
  generalize hF : fx w day f b kind cell hour = F
  generalize codeP (P t) = c at hck hok r1 hen ⊢
  refine wp_g5 c.length (fun j x1 x2 x3 x4 h1 => x4 = nI (161 * t + j) ∧ Sc h h1 ∧ Asked h1 ad day f b kind cell hour ∧ hI h1 8 2 = -1 ∧ ∃ (q : Pile) (ln : Nat) (ct : Bool), x1 = nI q.1 ∧ q.1 ≤ 40 ∧ x2 = nI ln ∧ x3 = (if ct = true then 1 else 0) ∧ (∀ i, i < q.1 → hI h1 20 i = q.2 i) ∧ crun F (c.drop j) q ln ct = crun F c nul 0 true ∧ cchk q.1 (c.drop j) = true) ⟨rfl, Sc.wI (Sc.refl h) 8 2 _ (by decide) rfl, A.sc 8 2 _ (by omega) rfl, q_at, nul, 0, true, rfl, Nat.zero_le 40, rfl, rfl, fun i hi => absurd hi (Nat.not_lt_zero i), rfl, hck⟩ (by omega) ?_ ?_
  · rintro G x1 x2 x3 x4 h1 ⟨rfl, s, A1, e2, q, ln, ct, rfl, q40, rfl, rfl, hq, hr, -⟩
    rw [List.drop_length] at hr
    rw [← hr]
    simp (config := {maxSteps := 5000000}) (disch := omega) only [↓reduceIte, ↓wp_some, ↓wp_none, wp_ite, ↓wp_cl, ↓wp_rz, ↓wp_nz, ↓wp_nzL, ↓wp_fI, ↓wp_fL, ↓wp_fR, ↓wp_pI, ↓wp_pL, ↓wp_pR, ↓wp_pZ, ↓wp_aI, ↓wp_aL, ↓wp_aR, ↓wp_bI, ↓wp_bL, ↓wp_bR, ↓wp_rO, ↓wp_cO, ↓wp_nO, ↓wp_iO, ↓wp_tbI, ↓wp_tbL, ↓wp_jn, q_okT, q_okA, q_gI, q_gL, q_gR, q_sI, q_sL, q_sR, q_SI, q_SL, q_SR, q_II, q_IL, q_IR, q_LI, q_LL, q_LR, q_RI, q_RL, q_RR, List.contains_cons, List.contains_nil, Nat.reduceBEq, Nat.reduceEqDiff, beq_self_eq_true, Bool.or_false, Bool.false_or, Bool.true_or, Bool.or_true, Bool.and_true, Bool.true_and, Bool.false_and, Bool.and_false, if_true, if_false, Bool.false_eq_true, true_and, and_true, false_and, and_false, and_self, not_true, not_false_iff, reduceCtorEq, forall_const, false_imp_iff, true_imp_iff, true_or, or_true, false_or, or_false, n1_0, m1neg, ne_eq, nle2, n24, n10, nle, b10, b11, am1, n0m1, Int32.add_zero, Int32.zero_add, ite_true, ite_false, Bool.and_eq_true, nI_m4, nI_m5, nI_m8, nI_m10, nI_m12, nI_m24, nI_m31, nI_m40, nI_m60, nI_m81, nI_m161, nI_m170, nI_p2, nI_p3, nI_p4, nI_p5, nI_p6, nI_pred, nI_leI, nI_ltI, nI_eq, nI_clamp, nI_neg, nI_ge0, nI_neg1, nI_1, nI_add, nI_mul, dle, decide_true, decide_false, Bool.not_true, Bool.not_false, decide_eq_true_eq, Nat.le_refl]
    exact ⟨rfl, e2, s⟩
  · rintro G j x1 x2 x3 x4 h1 hj ⟨rfl, s, A1, e2, q, ln, ct, rfl, q40, rfl, rfl, hq, hr, hc⟩ ih
    have R1 := R.sc s
    have l := R1.l
    rw [drop_cons (d := (0, 0)) hj] at hr hc
    have hop := hen j hj
    have ho := hok _ (getD_mem (d := (0, 0)) hj)
    have h18 : ∀ k, hI h1 18 k = hI h 18 k := fun k => s.2.1 18 k (fun _ => rfl)
    generalize c.getD j (0, 0) = i at hr hc hop ho
    generalize crun F c nul 0 true = res at ih hr ⊢
    have ih := fun q' ln' ct' h2 (a0 : q'.1 ≤ 40) (a1 : Sc h h2) a2 a3 a4 a5 a6 => ih (nI q'.1) (nI ln') (if ct' = true then 1 else 0) (nI (161 * t + (j + 1))) h2 ⟨rfl, a1, a2, a3, q', ln', ct', rfl, a0, rfl, rfl, a4, a5, a6⟩
    have step0 : (161 * t + c.length ≤ 161 * t + j) = False := eq_false (by omega)
    have step1 : (nI 3220 ≤ nI (161 * t + j)) = False := eq_false (by rw [nI_leI (by omega) (by omega)]; omega)
    by_cases c0 : i.1 = 0
    · have hv := ho.2.1 c0
      have g1 : encI i = i.2 := by simp only [encI, c0]
      have g2 : ¬ i.2 ≤ -20 := by grind
      have g3 : ¬ i.2 < 0 := by grind
      unfold crun at hr
      unfold cchk at hc
      rw [if_pos (by omega)] at hr hc
      obtain ⟨k1, k2⟩ := Bool.and_eq_true_iff.mp hc
      have k1 := of_decide_eq_true k1
      simp (config := {maxSteps := 5000000}) (disch := omega) only [↓reduceIte, ↓wp_some, ↓wp_none, wp_ite, ↓wp_cl, ↓wp_rz, ↓wp_nz, ↓wp_nzL, ↓wp_fI, ↓wp_fL, ↓wp_fR, ↓wp_pI, ↓wp_pL, ↓wp_pR, ↓wp_pZ, ↓wp_aI, ↓wp_aL, ↓wp_aR, ↓wp_bI, ↓wp_bL, ↓wp_bR, ↓wp_rO, ↓wp_cO, ↓wp_nO, ↓wp_iO, ↓wp_tbI, ↓wp_tbL, ↓wp_jn, q_okT, q_okA, q_gI, q_gL, q_gR, q_sI, q_sL, q_sR, q_SI, q_SL, q_SR, q_II, q_IL, q_IR, q_LI, q_LL, q_LR, q_RI, q_RL, q_RR, List.contains_cons, List.contains_nil, Nat.reduceBEq, Nat.reduceEqDiff, beq_self_eq_true, Bool.or_false, Bool.false_or, Bool.true_or, Bool.or_true, Bool.and_true, Bool.true_and, Bool.false_and, Bool.and_false, if_true, if_false, Bool.false_eq_true, true_and, and_true, false_and, and_false, and_self, not_true, not_false_iff, reduceCtorEq, forall_const, false_imp_iff, true_imp_iff, true_or, or_true, false_or, or_false, l.r0_0, l.r0_1, l.r0_2, l.r0_3, l.r0_4, l.r0_5, l.r1_1, l.r1_2, l.r1_4, l.r1_6, l.r1_7, l.r1_8, l.r8_0, l.r8_3, l.r8_4, l.r8_5, l.r8_6, l.r8_7, l.r8_8, l.r8_9, l.r9_1, l.r9_2, l.r9_3, l.r9_4, l.r9_9, l.r21_0, l.r21_1, l.r21_3, l.r21_4, l.r21_5, l.r21_6, l.r21_7, l.r21_8, l.r28_3, l.r28_4, l.r28_5, l.r28_6, l.r28_7, l.r28_9, l.r35_0, l.r35_1, l.r35_2, l.r35_3, l.r35_4, l.r35_5, l.r36_4, l.r38_4, l.r40_4, l.r42_4, l.r44_4, l.r46_4, l.s0, l.s1, l.s2, l.s3, l.s4, l.s5, l.s6, l.s7, l.s8, l.s9, l.s10, l.s11, l.s12, l.s13, l.s14, l.s15, l.s16, l.s17, l.s18, l.s19, l.s20, l.s21, l.s22, l.s23, l.s24, l.s25, l.s26, l.s27, l.s28, l.s29, l.s30, l.s31, l.s32, l.s33, l.s34, l.s35, l.s36, l.s37, l.s38, l.s39, l.s40, l.s41, l.s42, l.s43, l.s44, l.s45, l.s46, l.s47, l.s48, n1_0, m1neg, ne_eq, nle2, n24, n10, nle, b10, b11, am1, n0m1, Int32.add_zero, Int32.zero_add, ite_true, ite_false, Bool.and_eq_true, nI_m4, nI_m5, nI_m8, nI_m10, nI_m12, nI_m24, nI_m31, nI_m40, nI_m60, nI_m81, nI_m161, nI_m170, nI_p2, nI_p3, nI_p4, nI_p5, nI_p6, nI_pred, nI_leI, nI_ltI, nI_eq, nI_clamp, nI_neg, nI_ge0, nI_neg1, nI_1, nI_add, nI_mul, dle, decide_true, decide_false, Bool.not_true, Bool.not_false, decide_eq_true_eq, step0, wp_aN l.s18, step1, h18, hop, g1, g2, g3, wp_use (t_X6_push l (show q.1 < 64 by omega) _)]
      refine ih (q.1 + 1, updN q.2 q.1 i.2) ln ct _ (by show q.1 + 1 ≤ 40; omega) (s.wI 20 q.1 i.2 (by omega) rfl) (A1.sc 20 q.1 _ (by omega) rfl) (by rw [q_ne (by omega)]; exact e2) (fun m hm => pile_push hq _ m hm) ?_ k2
      rw [← hr]; unfold stp; rw [if_pos c0]
    by_cases c1 : i.1 = 1
    · have hv := ho.2.2 c1
      obtain ⟨k, hk, hkv⟩ := nI_in0 (c := i.2) (n := 11) hv.1 (by omega) (by show i.2 < 11; grind)
      have g1 : encI i = -1 - i.2 := by simp only [encI, c1]
      have g2 : ¬ -1 - i.2 ≤ -20 := by grind
      have g3 : -1 - i.2 < 0 := by grind
      have g4 : -1 - (-1 - nI k) = nI k := by grind
      rw [hkv] at g1 g2 g3
      unfold crun at hr
      unfold cchk at hc
      rw [if_pos (by omega)] at hr hc
      obtain ⟨k1, k2⟩ := Bool.and_eq_true_iff.mp hc
      have k1 := of_decide_eq_true k1
      have num := t_X6_numberOf R1 n U A1 hf hb (show k ≤ 10 by omega)
      rw [hF] at num
      simp (config := {maxSteps := 5000000}) (disch := omega) only [↓reduceIte, ↓wp_some, ↓wp_none, wp_ite, ↓wp_cl, ↓wp_rz, ↓wp_nz, ↓wp_nzL, ↓wp_fI, ↓wp_fL, ↓wp_fR, ↓wp_pI, ↓wp_pL, ↓wp_pR, ↓wp_pZ, ↓wp_aI, ↓wp_aL, ↓wp_aR, ↓wp_bI, ↓wp_bL, ↓wp_bR, ↓wp_rO, ↓wp_cO, ↓wp_nO, ↓wp_iO, ↓wp_tbI, ↓wp_tbL, ↓wp_jn, q_okT, q_okA, q_gI, q_gL, q_gR, q_sI, q_sL, q_sR, q_SI, q_SL, q_SR, q_II, q_IL, q_IR, q_LI, q_LL, q_LR, q_RI, q_RL, q_RR, List.contains_cons, List.contains_nil, Nat.reduceBEq, Nat.reduceEqDiff, beq_self_eq_true, Bool.or_false, Bool.false_or, Bool.true_or, Bool.or_true, Bool.and_true, Bool.true_and, Bool.false_and, Bool.and_false, if_true, if_false, Bool.false_eq_true, true_and, and_true, false_and, and_false, and_self, not_true, not_false_iff, reduceCtorEq, forall_const, false_imp_iff, true_imp_iff, true_or, or_true, false_or, or_false, l.r0_0, l.r0_1, l.r0_2, l.r0_3, l.r0_4, l.r0_5, l.r1_1, l.r1_2, l.r1_4, l.r1_6, l.r1_7, l.r1_8, l.r8_0, l.r8_3, l.r8_4, l.r8_5, l.r8_6, l.r8_7, l.r8_8, l.r8_9, l.r9_1, l.r9_2, l.r9_3, l.r9_4, l.r9_9, l.r21_0, l.r21_1, l.r21_3, l.r21_4, l.r21_5, l.r21_6, l.r21_7, l.r21_8, l.r28_3, l.r28_4, l.r28_5, l.r28_6, l.r28_7, l.r28_9, l.r35_0, l.r35_1, l.r35_2, l.r35_3, l.r35_4, l.r35_5, l.r36_4, l.r38_4, l.r40_4, l.r42_4, l.r44_4, l.r46_4, l.s0, l.s1, l.s2, l.s3, l.s4, l.s5, l.s6, l.s7, l.s8, l.s9, l.s10, l.s11, l.s12, l.s13, l.s14, l.s15, l.s16, l.s17, l.s18, l.s19, l.s20, l.s21, l.s22, l.s23, l.s24, l.s25, l.s26, l.s27, l.s28, l.s29, l.s30, l.s31, l.s32, l.s33, l.s34, l.s35, l.s36, l.s37, l.s38, l.s39, l.s40, l.s41, l.s42, l.s43, l.s44, l.s45, l.s46, l.s47, l.s48, n1_0, m1neg, ne_eq, nle2, n24, n10, nle, b10, b11, am1, n0m1, Int32.add_zero, Int32.zero_add, ite_true, ite_false, Bool.and_eq_true, nI_m4, nI_m5, nI_m8, nI_m10, nI_m12, nI_m24, nI_m31, nI_m40, nI_m60, nI_m81, nI_m161, nI_m170, nI_p2, nI_p3, nI_p4, nI_p5, nI_p6, nI_pred, nI_leI, nI_ltI, nI_eq, nI_clamp, nI_neg, nI_ge0, nI_neg1, nI_1, nI_add, nI_mul, dle, decide_true, decide_false, Bool.not_true, Bool.not_false, decide_eq_true_eq, step0, wp_aN l.s18, step1, h18, hop, g1, g2, g3, g4, wp_use num, wp_use (t_X6_push l (show q.1 < 64 by omega) _)]
      refine ih (q.1 + 1, updN q.2 q.1 (F k)) ln ct _ (by show q.1 + 1 ≤ 40; omega) (s.wI 20 q.1 _ (by omega) rfl) (A1.sc 20 q.1 _ (by omega) rfl) (by rw [q_ne (by omega)]; exact e2) (fun m hm => pile_push hq _ m hm) ?_ k2
      rw [← hr]; unfold stp; rw [if_neg c0, if_pos c1, hkv, nI_clamp (by omega)]
    unfold crun at hr
    unfold cchk at hc
    rw [if_neg (by omega)] at hc
    by_cases c2 : i.1 < 12
    · obtain ⟨f1, f2, f3, f4, f5, f6⟩ := opF (t := i.1) (by omega) c2
      have g1 := encI_op (i := i) (by omega) c2
      rw [if_pos (by omega)] at hr
      rw [if_pos c2] at hc
      obtain ⟨k1, k2⟩ := Bool.and_eq_true_iff.mp hc
      have k1 := of_decide_eq_true k1
      obtain ⟨m, hm⟩ : ∃ m, q.1 = m + 2 := ⟨q.1 - 2, by omega⟩
      have p1 := hq (m + 1) (by omega)
      have p2 := hq m (by omega)
      have z2 : nI (m + 2) - 2 = nI m := by rw [show (2 : Int32) = nI 2 from rfl, nI_sub (by omega)]; rfl
      have z1 : nI (m + 2) - 1 = nI (m + 1) := nI_pred (m + 1)
      simp (config := {maxSteps := 5000000}) (disch := omega) only [↓reduceIte, ↓wp_some, ↓wp_none, wp_ite, ↓wp_cl, ↓wp_rz, ↓wp_nz, ↓wp_nzL, ↓wp_fI, ↓wp_fL, ↓wp_fR, ↓wp_pI, ↓wp_pL, ↓wp_pR, ↓wp_pZ, ↓wp_aI, ↓wp_aL, ↓wp_aR, ↓wp_bI, ↓wp_bL, ↓wp_bR, ↓wp_rO, ↓wp_cO, ↓wp_nO, ↓wp_iO, ↓wp_tbI, ↓wp_tbL, ↓wp_jn, q_okT, q_okA, q_gI, q_gL, q_gR, q_sI, q_sL, q_sR, q_SI, q_SL, q_SR, q_II, q_IL, q_IR, q_LI, q_LL, q_LR, q_RI, q_RL, q_RR, List.contains_cons, List.contains_nil, Nat.reduceBEq, Nat.reduceEqDiff, beq_self_eq_true, Bool.or_false, Bool.false_or, Bool.true_or, Bool.or_true, Bool.and_true, Bool.true_and, Bool.false_and, Bool.and_false, if_true, if_false, Bool.false_eq_true, true_and, and_true, false_and, and_false, and_self, not_true, not_false_iff, reduceCtorEq, forall_const, false_imp_iff, true_imp_iff, true_or, or_true, false_or, or_false, l.r0_0, l.r0_1, l.r0_2, l.r0_3, l.r0_4, l.r0_5, l.r1_1, l.r1_2, l.r1_4, l.r1_6, l.r1_7, l.r1_8, l.r8_0, l.r8_3, l.r8_4, l.r8_5, l.r8_6, l.r8_7, l.r8_8, l.r8_9, l.r9_1, l.r9_2, l.r9_3, l.r9_4, l.r9_9, l.r21_0, l.r21_1, l.r21_3, l.r21_4, l.r21_5, l.r21_6, l.r21_7, l.r21_8, l.r28_3, l.r28_4, l.r28_5, l.r28_6, l.r28_7, l.r28_9, l.r35_0, l.r35_1, l.r35_2, l.r35_3, l.r35_4, l.r35_5, l.r36_4, l.r38_4, l.r40_4, l.r42_4, l.r44_4, l.r46_4, l.s0, l.s1, l.s2, l.s3, l.s4, l.s5, l.s6, l.s7, l.s8, l.s9, l.s10, l.s11, l.s12, l.s13, l.s14, l.s15, l.s16, l.s17, l.s18, l.s19, l.s20, l.s21, l.s22, l.s23, l.s24, l.s25, l.s26, l.s27, l.s28, l.s29, l.s30, l.s31, l.s32, l.s33, l.s34, l.s35, l.s36, l.s37, l.s38, l.s39, l.s40, l.s41, l.s42, l.s43, l.s44, l.s45, l.s46, l.s47, l.s48, n1_0, m1neg, ne_eq, nle2, n24, n10, nle, b10, b11, am1, n0m1, Int32.add_zero, Int32.zero_add, ite_true, ite_false, Bool.and_eq_true, nI_m4, nI_m5, nI_m8, nI_m10, nI_m12, nI_m24, nI_m31, nI_m40, nI_m60, nI_m81, nI_m161, nI_m170, nI_p2, nI_p3, nI_p4, nI_p5, nI_p6, nI_pred, nI_leI, nI_ltI, nI_eq, nI_clamp, nI_neg, nI_ge0, nI_neg1, nI_1, nI_add, nI_mul, dle, decide_true, decide_false, Bool.not_true, Bool.not_false, decide_eq_true_eq, step0, wp_aN l.s18, step1, h18, hop, g1, f1, f2, f3, f4, f5, f6, hm, z1, z2, wp_use (t_X6_read l (show m < 64 by omega)), wp_use (t_X6_read l (show m + 1 < 64 by omega)), wp_use (t_X6_ofTwo _ (show 2 ≤ i.1 by omega) c2 _ _), wp_use (t_X6_push l (show m < 64 by omega) _), p1, p2]
      refine ih (m + 1, updN q.2 m (two_ i.1 (q.2 m) (q.2 (m + 1)))) ln ct _ (by show m + 1 ≤ 40; omega) (s.wI 20 m _ (by omega) rfl) (A1.sc 20 m _ (by omega) rfl) (by rw [q_ne (by omega)]; exact e2) (fun x hx => pile_set hq m _ x (by show x < q.1; have : x < m + 1 := hx; omega)) ?_ (by rw [hm] at k2; exact k2)
      rw [← hr]; unfold stp; rw [if_neg c0, if_neg c1, if_neg (by omega), if_neg (by omega), hm]; rfl
    rw [if_neg c2] at hc
    by_cases c3 : i.1 < 14
    · rw [if_pos c3] at hc hr
      obtain ⟨k1, k2⟩ := Bool.and_eq_true_iff.mp hc
      have k1 := of_decide_eq_true k1
      obtain ⟨m, hm⟩ : ∃ m, q.1 = m + 1 := ⟨q.1 - 1, by omega⟩
      have p1 := hq m (by omega)
      by_cases c4 : i.1 = 12
      · have g1 : encI i = -31 := by simp only [encI, c4]
        simp (config := {decide := true, maxSteps := 5000000}) (disch := omega) only [↓reduceIte, ↓wp_some, ↓wp_none, wp_ite, ↓wp_cl, ↓wp_rz, ↓wp_nz, ↓wp_nzL, ↓wp_fI, ↓wp_fL, ↓wp_fR, ↓wp_pI, ↓wp_pL, ↓wp_pR, ↓wp_pZ, ↓wp_aI, ↓wp_aL, ↓wp_aR, ↓wp_bI, ↓wp_bL, ↓wp_bR, ↓wp_rO, ↓wp_cO, ↓wp_nO, ↓wp_iO, ↓wp_tbI, ↓wp_tbL, ↓wp_jn, q_okT, q_okA, q_gI, q_gL, q_gR, q_sI, q_sL, q_sR, q_SI, q_SL, q_SR, q_II, q_IL, q_IR, q_LI, q_LL, q_LR, q_RI, q_RL, q_RR, List.contains_cons, List.contains_nil, Nat.reduceBEq, Nat.reduceEqDiff, beq_self_eq_true, Bool.or_false, Bool.false_or, Bool.true_or, Bool.or_true, Bool.and_true, Bool.true_and, Bool.false_and, Bool.and_false, if_true, if_false, Bool.false_eq_true, true_and, and_true, false_and, and_false, and_self, not_true, not_false_iff, reduceCtorEq, forall_const, false_imp_iff, true_imp_iff, true_or, or_true, false_or, or_false, l.r0_0, l.r0_1, l.r0_2, l.r0_3, l.r0_4, l.r0_5, l.r1_1, l.r1_2, l.r1_4, l.r1_6, l.r1_7, l.r1_8, l.r8_0, l.r8_3, l.r8_4, l.r8_5, l.r8_6, l.r8_7, l.r8_8, l.r8_9, l.r9_1, l.r9_2, l.r9_3, l.r9_4, l.r9_9, l.r21_0, l.r21_1, l.r21_3, l.r21_4, l.r21_5, l.r21_6, l.r21_7, l.r21_8, l.r28_3, l.r28_4, l.r28_5, l.r28_6, l.r28_7, l.r28_9, l.r35_0, l.r35_1, l.r35_2, l.r35_3, l.r35_4, l.r35_5, l.r36_4, l.r38_4, l.r40_4, l.r42_4, l.r44_4, l.r46_4, l.s0, l.s1, l.s2, l.s3, l.s4, l.s5, l.s6, l.s7, l.s8, l.s9, l.s10, l.s11, l.s12, l.s13, l.s14, l.s15, l.s16, l.s17, l.s18, l.s19, l.s20, l.s21, l.s22, l.s23, l.s24, l.s25, l.s26, l.s27, l.s28, l.s29, l.s30, l.s31, l.s32, l.s33, l.s34, l.s35, l.s36, l.s37, l.s38, l.s39, l.s40, l.s41, l.s42, l.s43, l.s44, l.s45, l.s46, l.s47, l.s48, n1_0, m1neg, ne_eq, nle2, n24, n10, nle, b10, b11, am1, n0m1, Int32.add_zero, Int32.zero_add, ite_true, ite_false, Bool.and_eq_true, nI_m4, nI_m5, nI_m8, nI_m10, nI_m12, nI_m24, nI_m31, nI_m40, nI_m60, nI_m81, nI_m161, nI_m170, nI_p2, nI_p3, nI_p4, nI_p5, nI_p6, nI_pred, nI_leI, nI_ltI, nI_eq, nI_clamp, nI_neg, nI_ge0, nI_neg1, nI_1, nI_add, nI_mul, dle, decide_true, decide_false, Bool.not_true, Bool.not_false, decide_eq_true_eq, step0, wp_aN l.s18, step1, h18, hop, g1, hm, wp_use (t_X6_read l (show m < 64 by omega)), wp_use (t_X6_push l (show m < 64 by omega) _), p1]
        refine ih (m + 1, updN q.2 m (-(q.2 m))) ln ct _ (by show m + 1 ≤ 40; omega) (s.wI 20 m _ (by omega) rfl) (A1.sc 20 m _ (by omega) rfl) (by rw [q_ne (by omega)]; exact e2) (fun x hx => pile_set hq m _ x (by show x < q.1; have : x < m + 1 := hx; omega)) ?_ (by rw [hm] at k2; exact k2)
        rw [← hr]; unfold stp; rw [if_neg c0, if_neg c1, if_pos c4, hm]; rfl
      · have c5 : i.1 = 13 := by omega
        have g1 : encI i = -32 := by simp only [encI, c5]
        simp (config := {decide := true, maxSteps := 5000000}) (disch := omega) only [↓reduceIte, ↓wp_some, ↓wp_none, wp_ite, ↓wp_cl, ↓wp_rz, ↓wp_nz, ↓wp_nzL, ↓wp_fI, ↓wp_fL, ↓wp_fR, ↓wp_pI, ↓wp_pL, ↓wp_pR, ↓wp_pZ, ↓wp_aI, ↓wp_aL, ↓wp_aR, ↓wp_bI, ↓wp_bL, ↓wp_bR, ↓wp_rO, ↓wp_cO, ↓wp_nO, ↓wp_iO, ↓wp_tbI, ↓wp_tbL, ↓wp_jn, q_okT, q_okA, q_gI, q_gL, q_gR, q_sI, q_sL, q_sR, q_SI, q_SL, q_SR, q_II, q_IL, q_IR, q_LI, q_LL, q_LR, q_RI, q_RL, q_RR, List.contains_cons, List.contains_nil, Nat.reduceBEq, Nat.reduceEqDiff, beq_self_eq_true, Bool.or_false, Bool.false_or, Bool.true_or, Bool.or_true, Bool.and_true, Bool.true_and, Bool.false_and, Bool.and_false, if_true, if_false, Bool.false_eq_true, true_and, and_true, false_and, and_false, and_self, not_true, not_false_iff, reduceCtorEq, forall_const, false_imp_iff, true_imp_iff, true_or, or_true, false_or, or_false, l.r0_0, l.r0_1, l.r0_2, l.r0_3, l.r0_4, l.r0_5, l.r1_1, l.r1_2, l.r1_4, l.r1_6, l.r1_7, l.r1_8, l.r8_0, l.r8_3, l.r8_4, l.r8_5, l.r8_6, l.r8_7, l.r8_8, l.r8_9, l.r9_1, l.r9_2, l.r9_3, l.r9_4, l.r9_9, l.r21_0, l.r21_1, l.r21_3, l.r21_4, l.r21_5, l.r21_6, l.r21_7, l.r21_8, l.r28_3, l.r28_4, l.r28_5, l.r28_6, l.r28_7, l.r28_9, l.r35_0, l.r35_1, l.r35_2, l.r35_3, l.r35_4, l.r35_5, l.r36_4, l.r38_4, l.r40_4, l.r42_4, l.r44_4, l.r46_4, l.s0, l.s1, l.s2, l.s3, l.s4, l.s5, l.s6, l.s7, l.s8, l.s9, l.s10, l.s11, l.s12, l.s13, l.s14, l.s15, l.s16, l.s17, l.s18, l.s19, l.s20, l.s21, l.s22, l.s23, l.s24, l.s25, l.s26, l.s27, l.s28, l.s29, l.s30, l.s31, l.s32, l.s33, l.s34, l.s35, l.s36, l.s37, l.s38, l.s39, l.s40, l.s41, l.s42, l.s43, l.s44, l.s45, l.s46, l.s47, l.s48, n1_0, m1neg, ne_eq, nle2, n24, n10, nle, b10, b11, am1, n0m1, Int32.add_zero, Int32.zero_add, ite_true, ite_false, Bool.and_eq_true, nI_m4, nI_m5, nI_m8, nI_m10, nI_m12, nI_m24, nI_m31, nI_m40, nI_m60, nI_m81, nI_m161, nI_m170, nI_p2, nI_p3, nI_p4, nI_p5, nI_p6, nI_pred, nI_leI, nI_ltI, nI_eq, nI_clamp, nI_neg, nI_ge0, nI_neg1, nI_1, nI_add, nI_mul, dle, decide_true, decide_false, Bool.not_true, Bool.not_false, decide_eq_true_eq, step0, wp_aN l.s18, step1, h18, hop, g1, hm, wp_use (t_X6_read l (show m < 64 by omega)), wp_use (t_X6_push l (show m < 64 by omega) _), p1]
        have fin : ∀ v : Int32, v = (if q.2 m = 0 then 1 else 0) → wp (G (nI (m + 1)) (nI ln) (if ct = true then 1 else 0) (nI (161 * t + j + 1)) (wI h1 20 m v)) (fun r h' => r = res.fst ∧ hI h' 8 2 = res.snd ∧ Sc h h') := by
          rintro v rfl
          refine ih (m + 1, updN q.2 m (if q.2 m = 0 then 1 else 0)) ln ct _ (by show m + 1 ≤ 40; omega) (s.wI 20 m _ (by omega) rfl) (A1.sc 20 m _ (by omega) rfl) (by rw [q_ne (by omega)]; exact e2) (fun x hx => pile_set hq m _ x (by show x < q.1; have : x < m + 1 := hx; omega)) ?_ (by rw [hm] at k2; exact k2)
          rw [← hr]; unfold stp; rw [if_neg c0, if_neg c1, if_neg c4, if_pos c5, hm]; rfl
        exact ⟨fun z => fin 1 (by rw [if_pos z]), fun z => fin 0 (by rw [if_neg z])⟩
    rw [if_neg c3] at hc hr
    obtain ⟨k1, k2⟩ := Bool.and_eq_true_iff.mp hc
    have k1 := of_decide_eq_true k1
    have p1 := hq 0 (by omega)
    rw [k1] at hr
    by_cases c4 : i.1 < 16
    · rw [if_pos c4] at hr
      have fin : ∀ v : Int32, v = (if (decide (q.2 0 ≠ 0) == (i.1 == 14)) = true then 1 else 0) → wp (G (nI 0) (nI ln) v (nI (161 * t + j + 1)) h1) (fun r h' => r = res.fst ∧ hI h' 8 2 = res.snd ∧ Sc h h') := by
        rintro v rfl
        exact ih nul ln (decide (q.2 0 ≠ 0) == (i.1 == 14)) h1 (Nat.zero_le 40) s A1 e2 (fun x hx => absurd hx (Nat.not_lt_zero x)) hr k2
      by_cases c5 : i.1 = 14
      · have g1 : encI i = -33 := by simp only [encI, c5]
        simp (config := {decide := true, maxSteps := 5000000}) (disch := omega) only [↓reduceIte, ↓wp_some, ↓wp_none, wp_ite, ↓wp_cl, ↓wp_rz, ↓wp_nz, ↓wp_nzL, ↓wp_fI, ↓wp_fL, ↓wp_fR, ↓wp_pI, ↓wp_pL, ↓wp_pR, ↓wp_pZ, ↓wp_aI, ↓wp_aL, ↓wp_aR, ↓wp_bI, ↓wp_bL, ↓wp_bR, ↓wp_rO, ↓wp_cO, ↓wp_nO, ↓wp_iO, ↓wp_tbI, ↓wp_tbL, ↓wp_jn, q_okT, q_okA, q_gI, q_gL, q_gR, q_sI, q_sL, q_sR, q_SI, q_SL, q_SR, q_II, q_IL, q_IR, q_LI, q_LL, q_LR, q_RI, q_RL, q_RR, List.contains_cons, List.contains_nil, Nat.reduceBEq, Nat.reduceEqDiff, beq_self_eq_true, Bool.or_false, Bool.false_or, Bool.true_or, Bool.or_true, Bool.and_true, Bool.true_and, Bool.false_and, Bool.and_false, if_true, if_false, Bool.false_eq_true, true_and, and_true, false_and, and_false, and_self, not_true, not_false_iff, reduceCtorEq, forall_const, false_imp_iff, true_imp_iff, true_or, or_true, false_or, or_false, l.r0_0, l.r0_1, l.r0_2, l.r0_3, l.r0_4, l.r0_5, l.r1_1, l.r1_2, l.r1_4, l.r1_6, l.r1_7, l.r1_8, l.r8_0, l.r8_3, l.r8_4, l.r8_5, l.r8_6, l.r8_7, l.r8_8, l.r8_9, l.r9_1, l.r9_2, l.r9_3, l.r9_4, l.r9_9, l.r21_0, l.r21_1, l.r21_3, l.r21_4, l.r21_5, l.r21_6, l.r21_7, l.r21_8, l.r28_3, l.r28_4, l.r28_5, l.r28_6, l.r28_7, l.r28_9, l.r35_0, l.r35_1, l.r35_2, l.r35_3, l.r35_4, l.r35_5, l.r36_4, l.r38_4, l.r40_4, l.r42_4, l.r44_4, l.r46_4, l.s0, l.s1, l.s2, l.s3, l.s4, l.s5, l.s6, l.s7, l.s8, l.s9, l.s10, l.s11, l.s12, l.s13, l.s14, l.s15, l.s16, l.s17, l.s18, l.s19, l.s20, l.s21, l.s22, l.s23, l.s24, l.s25, l.s26, l.s27, l.s28, l.s29, l.s30, l.s31, l.s32, l.s33, l.s34, l.s35, l.s36, l.s37, l.s38, l.s39, l.s40, l.s41, l.s42, l.s43, l.s44, l.s45, l.s46, l.s47, l.s48, n1_0, m1neg, ne_eq, nle2, n24, n10, nle, b10, b11, am1, n0m1, Int32.add_zero, Int32.zero_add, ite_true, ite_false, Bool.and_eq_true, nI_m4, nI_m5, nI_m8, nI_m10, nI_m12, nI_m24, nI_m31, nI_m40, nI_m60, nI_m81, nI_m161, nI_m170, nI_p2, nI_p3, nI_p4, nI_p5, nI_p6, nI_pred, nI_leI, nI_ltI, nI_eq, nI_clamp, nI_neg, nI_ge0, nI_neg1, nI_1, nI_add, nI_mul, dle, decide_true, decide_false, Bool.not_true, Bool.not_false, decide_eq_true_eq, step0, wp_aN l.s18, step1, h18, hop, g1, k1, wp_use (t_X6_read l (show 0 < 64 by omega)), p1]
        exact ⟨fun z => fin _ (by simp [z, c5]), fun z => fin _ (by simp [z, c5])⟩
      · have c6 : i.1 = 15 := by omega
        have g1 : encI i = -34 := by simp only [encI, c6]
        simp (config := {decide := true, maxSteps := 5000000}) (disch := omega) only [↓reduceIte, ↓wp_some, ↓wp_none, wp_ite, ↓wp_cl, ↓wp_rz, ↓wp_nz, ↓wp_nzL, ↓wp_fI, ↓wp_fL, ↓wp_fR, ↓wp_pI, ↓wp_pL, ↓wp_pR, ↓wp_pZ, ↓wp_aI, ↓wp_aL, ↓wp_aR, ↓wp_bI, ↓wp_bL, ↓wp_bR, ↓wp_rO, ↓wp_cO, ↓wp_nO, ↓wp_iO, ↓wp_tbI, ↓wp_tbL, ↓wp_jn, q_okT, q_okA, q_gI, q_gL, q_gR, q_sI, q_sL, q_sR, q_SI, q_SL, q_SR, q_II, q_IL, q_IR, q_LI, q_LL, q_LR, q_RI, q_RL, q_RR, List.contains_cons, List.contains_nil, Nat.reduceBEq, Nat.reduceEqDiff, beq_self_eq_true, Bool.or_false, Bool.false_or, Bool.true_or, Bool.or_true, Bool.and_true, Bool.true_and, Bool.false_and, Bool.and_false, if_true, if_false, Bool.false_eq_true, true_and, and_true, false_and, and_false, and_self, not_true, not_false_iff, reduceCtorEq, forall_const, false_imp_iff, true_imp_iff, true_or, or_true, false_or, or_false, l.r0_0, l.r0_1, l.r0_2, l.r0_3, l.r0_4, l.r0_5, l.r1_1, l.r1_2, l.r1_4, l.r1_6, l.r1_7, l.r1_8, l.r8_0, l.r8_3, l.r8_4, l.r8_5, l.r8_6, l.r8_7, l.r8_8, l.r8_9, l.r9_1, l.r9_2, l.r9_3, l.r9_4, l.r9_9, l.r21_0, l.r21_1, l.r21_3, l.r21_4, l.r21_5, l.r21_6, l.r21_7, l.r21_8, l.r28_3, l.r28_4, l.r28_5, l.r28_6, l.r28_7, l.r28_9, l.r35_0, l.r35_1, l.r35_2, l.r35_3, l.r35_4, l.r35_5, l.r36_4, l.r38_4, l.r40_4, l.r42_4, l.r44_4, l.r46_4, l.s0, l.s1, l.s2, l.s3, l.s4, l.s5, l.s6, l.s7, l.s8, l.s9, l.s10, l.s11, l.s12, l.s13, l.s14, l.s15, l.s16, l.s17, l.s18, l.s19, l.s20, l.s21, l.s22, l.s23, l.s24, l.s25, l.s26, l.s27, l.s28, l.s29, l.s30, l.s31, l.s32, l.s33, l.s34, l.s35, l.s36, l.s37, l.s38, l.s39, l.s40, l.s41, l.s42, l.s43, l.s44, l.s45, l.s46, l.s47, l.s48, n1_0, m1neg, ne_eq, nle2, n24, n10, nle, b10, b11, am1, n0m1, Int32.add_zero, Int32.zero_add, ite_true, ite_false, Bool.and_eq_true, nI_m4, nI_m5, nI_m8, nI_m10, nI_m12, nI_m24, nI_m31, nI_m40, nI_m60, nI_m81, nI_m161, nI_m170, nI_p2, nI_p3, nI_p4, nI_p5, nI_p6, nI_pred, nI_leI, nI_ltI, nI_eq, nI_clamp, nI_neg, nI_ge0, nI_neg1, nI_1, nI_add, nI_mul, dle, decide_true, decide_false, Bool.not_true, Bool.not_false, decide_eq_true_eq, step0, wp_aN l.s18, step1, h18, hop, g1, k1, wp_use (t_X6_read l (show 0 < 64 by omega)), p1]
        exact ⟨fun z => fin _ (by simp [z, c6]), fun z => fin _ (by simp [z, c6])⟩
    · have c5 : i.1 = 16 := by have := ho.1; omega
      rw [if_neg c4] at hr
      have g1 : encI i = -35 := by simp only [encI, c5]
      cases ct with
      | true =>
        rw [if_pos rfl] at hr
        simp (config := {decide := true, maxSteps := 5000000}) (disch := omega) only [↓reduceIte, ↓wp_some, ↓wp_none, wp_ite, ↓wp_cl, ↓wp_rz, ↓wp_nz, ↓wp_nzL, ↓wp_fI, ↓wp_fL, ↓wp_fR, ↓wp_pI, ↓wp_pL, ↓wp_pR, ↓wp_pZ, ↓wp_aI, ↓wp_aL, ↓wp_aR, ↓wp_bI, ↓wp_bL, ↓wp_bR, ↓wp_rO, ↓wp_cO, ↓wp_nO, ↓wp_iO, ↓wp_tbI, ↓wp_tbL, ↓wp_jn, q_okT, q_okA, q_gI, q_gL, q_gR, q_sI, q_sL, q_sR, q_SI, q_SL, q_SR, q_II, q_IL, q_IR, q_LI, q_LL, q_LR, q_RI, q_RL, q_RR, List.contains_cons, List.contains_nil, Nat.reduceBEq, Nat.reduceEqDiff, beq_self_eq_true, Bool.or_false, Bool.false_or, Bool.true_or, Bool.or_true, Bool.and_true, Bool.true_and, Bool.false_and, Bool.and_false, if_true, if_false, Bool.false_eq_true, true_and, and_true, false_and, and_false, and_self, not_true, not_false_iff, reduceCtorEq, forall_const, false_imp_iff, true_imp_iff, true_or, or_true, false_or, or_false, l.r0_0, l.r0_1, l.r0_2, l.r0_3, l.r0_4, l.r0_5, l.r1_1, l.r1_2, l.r1_4, l.r1_6, l.r1_7, l.r1_8, l.r8_0, l.r8_3, l.r8_4, l.r8_5, l.r8_6, l.r8_7, l.r8_8, l.r8_9, l.r9_1, l.r9_2, l.r9_3, l.r9_4, l.r9_9, l.r21_0, l.r21_1, l.r21_3, l.r21_4, l.r21_5, l.r21_6, l.r21_7, l.r21_8, l.r28_3, l.r28_4, l.r28_5, l.r28_6, l.r28_7, l.r28_9, l.r35_0, l.r35_1, l.r35_2, l.r35_3, l.r35_4, l.r35_5, l.r36_4, l.r38_4, l.r40_4, l.r42_4, l.r44_4, l.r46_4, l.s0, l.s1, l.s2, l.s3, l.s4, l.s5, l.s6, l.s7, l.s8, l.s9, l.s10, l.s11, l.s12, l.s13, l.s14, l.s15, l.s16, l.s17, l.s18, l.s19, l.s20, l.s21, l.s22, l.s23, l.s24, l.s25, l.s26, l.s27, l.s28, l.s29, l.s30, l.s31, l.s32, l.s33, l.s34, l.s35, l.s36, l.s37, l.s38, l.s39, l.s40, l.s41, l.s42, l.s43, l.s44, l.s45, l.s46, l.s47, l.s48, n1_0, m1neg, ne_eq, nle2, n24, n10, nle, b10, b11, am1, n0m1, Int32.add_zero, Int32.zero_add, ite_true, ite_false, Bool.and_eq_true, nI_m4, nI_m5, nI_m8, nI_m10, nI_m12, nI_m24, nI_m31, nI_m40, nI_m60, nI_m81, nI_m161, nI_m170, nI_p2, nI_p3, nI_p4, nI_p5, nI_p6, nI_pred, nI_leI, nI_ltI, nI_eq, nI_clamp, nI_neg, nI_ge0, nI_neg1, nI_1, nI_add, nI_mul, dle, decide_true, decide_false, Bool.not_true, Bool.not_false, decide_eq_true_eq, step0, wp_aN l.s18, step1, h18, hop, g1, k1, wp_use (t_X6_read (h := wI h1 8 2 (nI ln)) (l.wI _ _ _) (show 0 < 64 by omega)), p1, q_ne]
        refine ⟨by rw [← hr], by rw [← hr] <;> exact q_at, s.wI 8 2 _ (by omega) rfl⟩
      | false =>
        rw [if_neg (by decide)] at hr
        simp (config := {decide := true, maxSteps := 5000000}) (disch := omega) only [↓reduceIte, ↓wp_some, ↓wp_none, wp_ite, ↓wp_cl, ↓wp_rz, ↓wp_nz, ↓wp_nzL, ↓wp_fI, ↓wp_fL, ↓wp_fR, ↓wp_pI, ↓wp_pL, ↓wp_pR, ↓wp_pZ, ↓wp_aI, ↓wp_aL, ↓wp_aR, ↓wp_bI, ↓wp_bL, ↓wp_bR, ↓wp_rO, ↓wp_cO, ↓wp_nO, ↓wp_iO, ↓wp_tbI, ↓wp_tbL, ↓wp_jn, q_okT, q_okA, q_gI, q_gL, q_gR, q_sI, q_sL, q_sR, q_SI, q_SL, q_SR, q_II, q_IL, q_IR, q_LI, q_LL, q_LR, q_RI, q_RL, q_RR, List.contains_cons, List.contains_nil, Nat.reduceBEq, Nat.reduceEqDiff, beq_self_eq_true, Bool.or_false, Bool.false_or, Bool.true_or, Bool.or_true, Bool.and_true, Bool.true_and, Bool.false_and, Bool.and_false, if_true, if_false, Bool.false_eq_true, true_and, and_true, false_and, and_false, and_self, not_true, not_false_iff, reduceCtorEq, forall_const, false_imp_iff, true_imp_iff, true_or, or_true, false_or, or_false, l.r0_0, l.r0_1, l.r0_2, l.r0_3, l.r0_4, l.r0_5, l.r1_1, l.r1_2, l.r1_4, l.r1_6, l.r1_7, l.r1_8, l.r8_0, l.r8_3, l.r8_4, l.r8_5, l.r8_6, l.r8_7, l.r8_8, l.r8_9, l.r9_1, l.r9_2, l.r9_3, l.r9_4, l.r9_9, l.r21_0, l.r21_1, l.r21_3, l.r21_4, l.r21_5, l.r21_6, l.r21_7, l.r21_8, l.r28_3, l.r28_4, l.r28_5, l.r28_6, l.r28_7, l.r28_9, l.r35_0, l.r35_1, l.r35_2, l.r35_3, l.r35_4, l.r35_5, l.r36_4, l.r38_4, l.r40_4, l.r42_4, l.r44_4, l.r46_4, l.s0, l.s1, l.s2, l.s3, l.s4, l.s5, l.s6, l.s7, l.s8, l.s9, l.s10, l.s11, l.s12, l.s13, l.s14, l.s15, l.s16, l.s17, l.s18, l.s19, l.s20, l.s21, l.s22, l.s23, l.s24, l.s25, l.s26, l.s27, l.s28, l.s29, l.s30, l.s31, l.s32, l.s33, l.s34, l.s35, l.s36, l.s37, l.s38, l.s39, l.s40, l.s41, l.s42, l.s43, l.s44, l.s45, l.s46, l.s47, l.s48, n1_0, m1neg, ne_eq, nle2, n24, n10, nle, b10, b11, am1, n0m1, Int32.add_zero, Int32.zero_add, ite_true, ite_false, Bool.and_eq_true, nI_m4, nI_m5, nI_m8, nI_m10, nI_m12, nI_m24, nI_m31, nI_m40, nI_m60, nI_m81, nI_m161, nI_m170, nI_p2, nI_p3, nI_p4, nI_p5, nI_p6, nI_pred, nI_leI, nI_ltI, nI_eq, nI_clamp, nI_neg, nI_ge0, nI_neg1, nI_1, nI_add, nI_mul, dle, decide_true, decide_false, Bool.not_true, Bool.not_false, decide_eq_true_eq, step0, wp_aN l.s18, step1, h18, hop, g1, k1]
        exact ih nul (ln + 1) true h1 (Nat.zero_le 40) s A1 e2 (fun x hx => absurd hx (Nat.not_lt_zero x)) hr k2
