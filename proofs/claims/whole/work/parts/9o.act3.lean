/-! the call act: the class's bodies by contract -/
theorem rt_h0 {a b : Nat} {K c : Int32} {f : Int32} (hf : f = 0 ∨ f = 6 ∨ f = 7) (x : Int32) : RunT a b K c 2 f 0 x (x + nI b, [1]) := by
  intro n hn h t d G h1 h2
  obtain ⟨n, rfl⟩ : ∃ k, n = k + 2 := ⟨n - 2, by omega⟩
  simp only [List.length_cons, List.length_nil] at h1
  refine t_res G (by omega) (by omega) (by grind) (Or.inl rfl) x (n + 1) ?_
  have eb : bodyOf f 0 = 1 := by rcases hf with rfl | rfl | rfl <;> decide
  rw [eb, eq_G_X0_run, if_neg (by decide)]
  obtain ⟨-, -, -, o, e0, e1, -⟩ := G.rn 1
  unfold fb_X0_runBody
  simp (config := {decide := true, maxSteps := 5000000}) (disch := omega) only [↓reduceIte, ↓wp_some, ↓wp_none, wp_ite, ↓wp_cl, ↓wp_rz, ↓wp_nz, ↓wp_nzL, ↓wp_fI, ↓wp_fL, ↓wp_fR, ↓wp_pI, ↓wp_pL, ↓wp_pR, ↓wp_pZ, ↓wp_aI, ↓wp_aL, ↓wp_aR, ↓wp_bI, ↓wp_bL, ↓wp_bR, ↓wp_rO, ↓wp_cO, ↓wp_nO, ↓wp_iO, ↓wp_tbI, ↓wp_tbL, ↓wp_jn, q_okA, q_gI, q_gL, q_gR, q_sI, q_sL, q_sR, q_SI, q_SL, q_SR, q_IL, q_IR, q_LI, q_LR, q_RI, q_RL, List.contains_cons, List.contains_nil, Nat.reduceBEq, Nat.reduceEqDiff, beq_self_eq_true, Bool.or_false, Bool.false_or, Bool.true_or, Bool.or_true, Bool.and_true, Bool.true_and, Bool.false_and, Bool.and_false, if_true, if_false, Bool.false_eq_true, true_and, and_true, false_and, and_false, and_self, not_true, not_false_iff, reduceCtorEq, forall_const, false_imp_iff, true_imp_iff, true_or, or_true, false_or, or_false, o, e0]
  rfl
theorem rt_h1 {a b : Nat} {K c : Int32} (hK : boxK K = true) {f : Int32} (hf : f = 1 ∨ f = 2 ∨ f = 3 ∨ f = 5) (x : Int32) : RunT a b K c 4 f 0 x (x + nI b - c, [20, 1]) := by
  intro n hn h t d G h1 h2
  obtain ⟨n, rfl⟩ : ∃ k, n = k + 2 := ⟨n - 2, by omega⟩
  simp only [List.length_cons, List.length_append, List.length_nil] at h1
  refine t_res G (by omega) (by omega) (by grind) (Or.inl rfl) x (n + 1) ?_
  have eb : bodyOf f 0 = 20 := by rcases hf with rfl | rfl | rfl | rfl <;> decide
  have ea : abovOf f 0 = 0 := by rcases hf with rfl | rfl | rfl | rfl <;> decide
  rw [ea]
  rw [eb, eq_G_X0_run, if_neg (by decide)]
  have G1 := G.rn 20
  obtain ⟨-, -, -, o1, e10, e11, x1⟩ := G.rn 20
  have C1 := (rt_h0 (Or.inl rfl) x) n (by omega) (rnC h 20) (t + 1) (d + 1) G1 (by (try simp only [List.length_cons, List.length_append, List.length_nil] at h1 ⊢); omega) (by omega)
  have G2 := G1.rns [1]
  obtain ⟨-, -, -, o2, e20, e21, x2⟩ := G1.rns [1]
  unfold fb_X0_runBody
  have y2 := x2 hK
  unfold vCN
  unfold f_X1_cellNow
  simp (config := {decide := true, maxSteps := 5000000}) (disch := omega) only [↓reduceIte, ↓wp_some, ↓wp_none, wp_ite, ↓wp_cl, ↓wp_rz, ↓wp_nz, ↓wp_nzL, ↓wp_fI, ↓wp_fL, ↓wp_fR, ↓wp_pI, ↓wp_pL, ↓wp_pR, ↓wp_pZ, ↓wp_aI, ↓wp_aL, ↓wp_aR, ↓wp_bI, ↓wp_bL, ↓wp_bR, ↓wp_rO, ↓wp_cO, ↓wp_nO, ↓wp_iO, ↓wp_tbI, ↓wp_tbL, ↓wp_jn, q_okA, q_gI, q_gL, q_gR, q_sI, q_sL, q_sR, q_SI, q_SL, q_SR, q_IL, q_IR, q_LI, q_LR, q_RI, q_RL, List.contains_cons, List.contains_nil, Nat.reduceBEq, Nat.reduceEqDiff, beq_self_eq_true, Bool.or_false, Bool.false_or, Bool.true_or, Bool.or_true, Bool.and_true, Bool.true_and, Bool.false_and, Bool.and_false, if_true, if_false, Bool.false_eq_true, true_and, and_true, false_and, and_false, and_self, not_true, not_false_iff, reduceCtorEq, forall_const, false_imp_iff, true_imp_iff, true_or, or_true, false_or, or_false, o1, e10, e11, wp_go C1, o2, e20, e21, y2.1, y2.2]
  rfl
theorem rt_h4 {a b : Nat} {K c : Int32} (hK : boxK K = true) (x : Int32) : RunT a b K c 6 4 0 x ((x + nI b - c) ^^^ 5, [50, 20, 1]) := by
  intro n hn h t d G h1 h2
  obtain ⟨n, rfl⟩ : ∃ k, n = k + 2 := ⟨n - 2, by omega⟩
  simp only [List.length_cons, List.length_append, List.length_nil] at h1
  refine t_res G (by omega) (by omega) (by decide) (Or.inl rfl) x (n + 1) ?_
  have eb : bodyOf 4 0 = 50 := by decide
  have ea : abovOf 4 0 = 1 := by decide
  rw [ea]
  rw [eb, eq_G_X0_run, if_neg (by decide)]
  have G1 := G.rn 50
  obtain ⟨-, -, -, o1, e10, e11, x1⟩ := G.rn 50
  have C1 := (rt_h1 hK (Or.inl rfl) x) n (by omega) (rnC h 50) (t + 1) (d + 1) G1 (by (try simp only [List.length_cons, List.length_append, List.length_nil] at h1 ⊢); omega) (by omega)
  have G2 := G1.rns [20, 1]
  obtain ⟨-, -, -, o2, e20, e21, x2⟩ := G1.rns [20, 1]
  unfold fb_X0_runBody
  simp (config := {decide := true, maxSteps := 5000000}) (disch := omega) only [↓reduceIte, ↓wp_some, ↓wp_none, wp_ite, ↓wp_cl, ↓wp_rz, ↓wp_nz, ↓wp_nzL, ↓wp_fI, ↓wp_fL, ↓wp_fR, ↓wp_pI, ↓wp_pL, ↓wp_pR, ↓wp_pZ, ↓wp_aI, ↓wp_aL, ↓wp_aR, ↓wp_bI, ↓wp_bL, ↓wp_bR, ↓wp_rO, ↓wp_cO, ↓wp_nO, ↓wp_iO, ↓wp_tbI, ↓wp_tbL, ↓wp_jn, q_okA, q_gI, q_gL, q_gR, q_sI, q_sL, q_sR, q_SI, q_SL, q_SR, q_IL, q_IR, q_LI, q_LR, q_RI, q_RL, List.contains_cons, List.contains_nil, Nat.reduceBEq, Nat.reduceEqDiff, beq_self_eq_true, Bool.or_false, Bool.false_or, Bool.true_or, Bool.or_true, Bool.and_true, Bool.true_and, Bool.false_and, Bool.and_false, if_true, if_false, Bool.false_eq_true, true_and, and_true, false_and, and_false, and_self, not_true, not_false_iff, reduceCtorEq, forall_const, false_imp_iff, true_imp_iff, true_or, or_true, false_or, or_false, o1, e10, e11, wp_go C1, o2, e20, e21]
  rfl
theorem rt_hides {a b : Nat} {K c : Int32} (k8 : K = 0 ∨ K = 1 ∨ K = 2 ∨ K = 3 ∨ K = 4 ∨ K = 5 ∨ K = 6 ∨ K = 7) (x : Int32) : RunT a b K c 6 K 0 x (axH K (nI b) c x) := by
  unfold axH
  by_cases c1 : K = 4
  · subst c1
    rw [if_pos rfl]
    exact rt_h4 (by decide) x
  rw [if_neg c1]
  by_cases c2 : boxK K = true
  · rw [if_pos c2]
    have := boxK_iff.mp c2
    exact (rt_h1 c2 (by grind) x).mono (by omega)
  · rw [if_neg c2]
    have : ¬ (1 ≤ K ∧ K ≤ 5) := fun y => c2 (boxK_iff.mpr y)
    exact (rt_h0 (by grind) x).mono (by omega)
theorem rt_pt {a b : Nat} {K c : Int32} (k8 : K = 0 ∨ K = 1 ∨ K = 2 ∨ K = 3 ∨ K = 4 ∨ K = 5 ∨ K = 6 ∨ K = 7) {f : Int32} (hf : f = 0 ∨ f = 1 ∨ f = 3 ∨ f = 4 ∨ f = 6) (x : Int32) : RunT a b K c 8 f 1 x (axPT K (nI b) c x) := by
  intro n hn h t d G h1 h2
  obtain ⟨n, rfl⟩ : ∃ k, n = k + 2 := ⟨n - 2, by omega⟩
  unfold axPT at h1 ⊢
  simp only [List.length_cons, List.length_append, List.length_nil] at h1
  refine t_res G (by omega) (by omega) (by grind) (by decide) x (n + 1) ?_
  have eb : bodyOf f 1 = 10 := by rcases hf with rfl | rfl | rfl | rfl | rfl <;> decide
  rw [eb, eq_G_X0_run, if_neg (by decide)]
  have G1 := G.rn 10
  obtain ⟨-, -, -, o1, e10, e11, x1⟩ := G.rn 10
  have C1 := (rt_hides k8 x) n (by omega) (rnC h 10) (t + 1) (d + 1) G1 (by (try simp only [List.length_cons, List.length_append, List.length_nil] at h1 ⊢); omega) (by omega)
  have G2 := G1.rns (axH K (nI b) c x).2
  obtain ⟨-, -, -, o2, e20, e21, x2⟩ := G1.rns (axH K (nI b) c x).2
  unfold fb_X0_runBody
  simp (config := {decide := true, maxSteps := 5000000}) (disch := omega) only [↓reduceIte, ↓wp_some, ↓wp_none, wp_ite, ↓wp_cl, ↓wp_rz, ↓wp_nz, ↓wp_nzL, ↓wp_fI, ↓wp_fL, ↓wp_fR, ↓wp_pI, ↓wp_pL, ↓wp_pR, ↓wp_pZ, ↓wp_aI, ↓wp_aL, ↓wp_aR, ↓wp_bI, ↓wp_bL, ↓wp_bR, ↓wp_rO, ↓wp_cO, ↓wp_nO, ↓wp_iO, ↓wp_tbI, ↓wp_tbL, ↓wp_jn, q_okA, q_gI, q_gL, q_gR, q_sI, q_sL, q_sR, q_SI, q_SL, q_SR, q_IL, q_IR, q_LI, q_LR, q_RI, q_RL, List.contains_cons, List.contains_nil, Nat.reduceBEq, Nat.reduceEqDiff, beq_self_eq_true, Bool.or_false, Bool.false_or, Bool.true_or, Bool.or_true, Bool.and_true, Bool.true_and, Bool.false_and, Bool.and_false, if_true, if_false, Bool.false_eq_true, true_and, and_true, false_and, and_false, and_self, not_true, not_false_iff, reduceCtorEq, forall_const, false_imp_iff, true_imp_iff, true_or, or_true, false_or, or_false, o1, e10, e11, wp_go C1, o2, e20, e21]
  rfl
theorem rt_f0 {a b : Nat} {K c : Int32} {f : Int32} (hf : f = 0 ∨ f = 1 ∨ f = 2 ∨ f = 4 ∨ f = 6 ∨ f = 7) (x : Int32) : RunT a b K c 2 f 2 x (x ^^^ nI b, [11]) := by
  intro n hn h t d G h1 h2
  obtain ⟨n, rfl⟩ : ∃ k, n = k + 2 := ⟨n - 2, by omega⟩
  simp only [List.length_cons, List.length_nil] at h1
  refine t_res G (by omega) (by omega) (by grind) (by decide) x (n + 1) ?_
  have eb : bodyOf f 2 = 11 := by rcases hf with rfl | rfl | rfl | rfl | rfl | rfl <;> decide
  rw [eb, eq_G_X0_run, if_neg (by decide)]
  obtain ⟨-, -, -, o, e0, e1, -⟩ := G.rn 11
  unfold fb_X0_runBody
  simp (config := {decide := true, maxSteps := 5000000}) (disch := omega) only [↓reduceIte, ↓wp_some, ↓wp_none, wp_ite, ↓wp_cl, ↓wp_rz, ↓wp_nz, ↓wp_nzL, ↓wp_fI, ↓wp_fL, ↓wp_fR, ↓wp_pI, ↓wp_pL, ↓wp_pR, ↓wp_pZ, ↓wp_aI, ↓wp_aL, ↓wp_aR, ↓wp_bI, ↓wp_bL, ↓wp_bR, ↓wp_rO, ↓wp_cO, ↓wp_nO, ↓wp_iO, ↓wp_tbI, ↓wp_tbL, ↓wp_jn, q_okA, q_gI, q_gL, q_gR, q_sI, q_sL, q_sR, q_SI, q_SL, q_SR, q_IL, q_IR, q_LI, q_LR, q_RI, q_RL, List.contains_cons, List.contains_nil, Nat.reduceBEq, Nat.reduceEqDiff, beq_self_eq_true, Bool.or_false, Bool.false_or, Bool.true_or, Bool.or_true, Bool.and_true, Bool.true_and, Bool.false_and, Bool.and_false, if_true, if_false, Bool.false_eq_true, true_and, and_true, false_and, and_false, and_self, not_true, not_false_iff, reduceCtorEq, forall_const, false_imp_iff, true_imp_iff, true_or, or_true, false_or, or_false, o, e0]
  rfl
theorem rt_f3 {a b : Nat} {K c : Int32} (x : Int32) : RunT a b K c 4 3 2 x ((x ^^^ nI b) * 3, [40, 11]) := by
  intro n hn h t d G h1 h2
  obtain ⟨n, rfl⟩ : ∃ k, n = k + 2 := ⟨n - 2, by omega⟩
  simp only [List.length_cons, List.length_append, List.length_nil] at h1
  refine t_res G (by omega) (by omega) (by decide) (by decide) x (n + 1) ?_
  have eb : bodyOf 3 2 = 40 := by decide
  have ea : abovOf 3 2 = 1 := by decide
  rw [ea]
  rw [eb, eq_G_X0_run, if_neg (by decide)]
  have G1 := G.rn 40
  obtain ⟨-, -, -, o1, e10, e11, x1⟩ := G.rn 40
  have C1 := (rt_f0 (Or.inr (Or.inl rfl)) x) n (by omega) (rnC h 40) (t + 1) (d + 1) G1 (by (try simp only [List.length_cons, List.length_append, List.length_nil] at h1 ⊢); omega) (by omega)
  have G2 := G1.rns [11]
  obtain ⟨-, -, -, o2, e20, e21, x2⟩ := G1.rns [11]
  unfold fb_X0_runBody
  simp (config := {decide := true, maxSteps := 5000000}) (disch := omega) only [↓reduceIte, ↓wp_some, ↓wp_none, wp_ite, ↓wp_cl, ↓wp_rz, ↓wp_nz, ↓wp_nzL, ↓wp_fI, ↓wp_fL, ↓wp_fR, ↓wp_pI, ↓wp_pL, ↓wp_pR, ↓wp_pZ, ↓wp_aI, ↓wp_aL, ↓wp_aR, ↓wp_bI, ↓wp_bL, ↓wp_bR, ↓wp_rO, ↓wp_cO, ↓wp_nO, ↓wp_iO, ↓wp_tbI, ↓wp_tbL, ↓wp_jn, q_okA, q_gI, q_gL, q_gR, q_sI, q_sL, q_sR, q_SI, q_SL, q_SR, q_IL, q_IR, q_LI, q_LR, q_RI, q_RL, List.contains_cons, List.contains_nil, Nat.reduceBEq, Nat.reduceEqDiff, beq_self_eq_true, Bool.or_false, Bool.false_or, Bool.true_or, Bool.or_true, Bool.and_true, Bool.true_and, Bool.false_and, Bool.and_false, if_true, if_false, Bool.false_eq_true, true_and, and_true, false_and, and_false, and_self, not_true, not_false_iff, reduceCtorEq, forall_const, false_imp_iff, true_imp_iff, true_or, or_true, false_or, or_false, o1, e10, e11, wp_go C1, o2, e20, e21]
  rfl
theorem rt_f5 {a b : Nat} {K c : Int32} (x : Int32) : RunT a b K c 4 5 2 x (-(x ^^^ nI b), [60, 11]) := by
  intro n hn h t d G h1 h2
  obtain ⟨n, rfl⟩ : ∃ k, n = k + 2 := ⟨n - 2, by omega⟩
  simp only [List.length_cons, List.length_append, List.length_nil] at h1
  refine t_res G (by omega) (by omega) (by decide) (by decide) x (n + 1) ?_
  have eb : bodyOf 5 2 = 60 := by decide
  have ea : abovOf 5 2 = 2 := by decide
  rw [ea]
  rw [eb, eq_G_X0_run, if_neg (by decide)]
  have G1 := G.rn 60
  obtain ⟨-, -, -, o1, e10, e11, x1⟩ := G.rn 60
  have C1 := (rt_f0 (Or.inr (Or.inr (Or.inl rfl))) x) n (by omega) (rnC h 60) (t + 1) (d + 1) G1 (by (try simp only [List.length_cons, List.length_append, List.length_nil] at h1 ⊢); omega) (by omega)
  have G2 := G1.rns [11]
  obtain ⟨-, -, -, o2, e20, e21, x2⟩ := G1.rns [11]
  unfold fb_X0_runBody
  simp (config := {decide := true, maxSteps := 5000000}) (disch := omega) only [↓reduceIte, ↓wp_some, ↓wp_none, wp_ite, ↓wp_cl, ↓wp_rz, ↓wp_nz, ↓wp_nzL, ↓wp_fI, ↓wp_fL, ↓wp_fR, ↓wp_pI, ↓wp_pL, ↓wp_pR, ↓wp_pZ, ↓wp_aI, ↓wp_aL, ↓wp_aR, ↓wp_bI, ↓wp_bL, ↓wp_bR, ↓wp_rO, ↓wp_cO, ↓wp_nO, ↓wp_iO, ↓wp_tbI, ↓wp_tbL, ↓wp_jn, q_okA, q_gI, q_gL, q_gR, q_sI, q_sL, q_sR, q_SI, q_SL, q_SR, q_IL, q_IR, q_LI, q_LR, q_RI, q_RL, List.contains_cons, List.contains_nil, Nat.reduceBEq, Nat.reduceEqDiff, beq_self_eq_true, Bool.or_false, Bool.false_or, Bool.true_or, Bool.or_true, Bool.and_true, Bool.true_and, Bool.false_and, Bool.and_false, if_true, if_false, Bool.false_eq_true, true_and, and_true, false_and, and_false, and_self, not_true, not_false_iff, reduceCtorEq, forall_const, false_imp_iff, true_imp_iff, true_or, or_true, false_or, or_false, o1, e10, e11, wp_go C1, o2, e20, e21]
  rfl
theorem rt_finds {a b : Nat} {K c : Int32} (k8 : K = 0 ∨ K = 1 ∨ K = 2 ∨ K = 3 ∨ K = 4 ∨ K = 5 ∨ K = 6 ∨ K = 7) (x : Int32) : RunT a b K c 4 K 2 x (axF K (nI b) x) := by
  unfold axF
  by_cases c1 : K = 3
  · subst c1
    rw [if_pos rfl]
    exact rt_f3 x
  rw [if_neg c1]
  by_cases c2 : K = 5
  · subst c2
    rw [if_pos rfl]
    exact rt_f5 x
  · rw [if_neg c2]
    exact (rt_f0 (by grind) x).mono (by omega)
theorem rt_rt {a b : Nat} {K c : Int32} (k8 : K = 0 ∨ K = 1 ∨ K = 2 ∨ K = 3 ∨ K = 4 ∨ K = 5 ∨ K = 6 ∨ K = 7) (x : Int32) : RunT a b K c 10 2 1 x (axRT K (nI b) c x) := by
  intro n hn h t d G h1 h2
  obtain ⟨n, rfl⟩ : ∃ k, n = k + 2 := ⟨n - 2, by omega⟩
  unfold axRT at h1 ⊢
  simp only [List.length_cons, List.length_append, List.length_nil] at h1
  refine t_res G (by omega) (by omega) (by decide) (by decide) x (n + 1) ?_
  have eb : bodyOf 2 1 = 30 := by decide
  have ea : abovOf 2 1 = 1 := by decide
  rw [ea]
  rw [eb, eq_G_X0_run, if_neg (by decide)]
  have G1 := G.rn 30
  obtain ⟨-, -, -, o1, e10, e11, x1⟩ := G.rn 30
  have C1 := (rt_pt k8 (Or.inr (Or.inl rfl)) x) n (by omega) (rnC h 30) (t + 1) (d + 1) G1 (by (try simp only [List.length_cons, List.length_append, List.length_nil] at h1 ⊢); omega) (by omega)
  have G2 := G1.rns (axPT K (nI b) c x).2
  obtain ⟨-, -, -, o2, e20, e21, x2⟩ := G1.rns (axPT K (nI b) c x).2
  have C2 := (rt_finds k8 2) n (by omega) (rnsC (rnC h 30) (axPT K (nI b) c x).2) (t + 1 + (axPT K (nI b) c x).2.length) (d + 1) G2 (by (try simp only [List.length_cons, List.length_append, List.length_nil] at h1 ⊢); omega) (by omega)
  have G3 := G2.rns (axF K (nI b) 2).2
  obtain ⟨-, -, -, o3, e30, e31, x3⟩ := G2.rns (axF K (nI b) 2).2
  unfold fb_X0_runBody
  simp (config := {decide := true, maxSteps := 5000000}) (disch := omega) only [↓reduceIte, ↓wp_some, ↓wp_none, wp_ite, ↓wp_cl, ↓wp_rz, ↓wp_nz, ↓wp_nzL, ↓wp_fI, ↓wp_fL, ↓wp_fR, ↓wp_pI, ↓wp_pL, ↓wp_pR, ↓wp_pZ, ↓wp_aI, ↓wp_aL, ↓wp_aR, ↓wp_bI, ↓wp_bL, ↓wp_bR, ↓wp_rO, ↓wp_cO, ↓wp_nO, ↓wp_iO, ↓wp_tbI, ↓wp_tbL, ↓wp_jn, q_okA, q_gI, q_gL, q_gR, q_sI, q_sL, q_sR, q_SI, q_SL, q_SR, q_IL, q_IR, q_LI, q_LR, q_RI, q_RL, List.contains_cons, List.contains_nil, Nat.reduceBEq, Nat.reduceEqDiff, beq_self_eq_true, Bool.or_false, Bool.false_or, Bool.true_or, Bool.or_true, Bool.and_true, Bool.true_and, Bool.false_and, Bool.and_false, if_true, if_false, Bool.false_eq_true, true_and, and_true, false_and, and_false, and_self, not_true, not_false_iff, reduceCtorEq, forall_const, false_imp_iff, true_imp_iff, true_or, or_true, false_or, or_false, o1, e10, e11, wp_go C1, o2, e20, e21, wp_go C2, o3, e30, e31]
  exact rnsC_app _ _ _
theorem rt_t5 {a b : Nat} {K c : Int32} (k8 : K = 0 ∨ K = 1 ∨ K = 2 ∨ K = 3 ∨ K = 4 ∨ K = 5 ∨ K = 6 ∨ K = 7) (x : Int32) : RunT a b K c 12 5 1 x ((axRT K (nI b) c x).1 - 1, 61 :: (axRT K (nI b) c x).2) := by
  intro n hn h t d G h1 h2
  obtain ⟨n, rfl⟩ : ∃ k, n = k + 2 := ⟨n - 2, by omega⟩
  simp only [List.length_cons, List.length_append, List.length_nil] at h1
  refine t_res G (by omega) (by omega) (by decide) (by decide) x (n + 1) ?_
  have eb : bodyOf 5 1 = 61 := by decide
  have ea : abovOf 5 1 = 2 := by decide
  rw [ea]
  rw [eb, eq_G_X0_run, if_neg (by decide)]
  have G1 := G.rn 61
  obtain ⟨-, -, -, o1, e10, e11, x1⟩ := G.rn 61
  have C1 := (rt_rt k8 x) n (by omega) (rnC h 61) (t + 1) (d + 1) G1 (by (try simp only [List.length_cons, List.length_append, List.length_nil] at h1 ⊢); omega) (by omega)
  have G2 := G1.rns (axRT K (nI b) c x).2
  obtain ⟨-, -, -, o2, e20, e21, x2⟩ := G1.rns (axRT K (nI b) c x).2
  unfold fb_X0_runBody
  simp (config := {decide := true, maxSteps := 5000000}) (disch := omega) only [↓reduceIte, ↓wp_some, ↓wp_none, wp_ite, ↓wp_cl, ↓wp_rz, ↓wp_nz, ↓wp_nzL, ↓wp_fI, ↓wp_fL, ↓wp_fR, ↓wp_pI, ↓wp_pL, ↓wp_pR, ↓wp_pZ, ↓wp_aI, ↓wp_aL, ↓wp_aR, ↓wp_bI, ↓wp_bL, ↓wp_bR, ↓wp_rO, ↓wp_cO, ↓wp_nO, ↓wp_iO, ↓wp_tbI, ↓wp_tbL, ↓wp_jn, q_okA, q_gI, q_gL, q_gR, q_sI, q_sL, q_sR, q_SI, q_SL, q_SR, q_IL, q_IR, q_LI, q_LR, q_RI, q_RL, List.contains_cons, List.contains_nil, Nat.reduceBEq, Nat.reduceEqDiff, beq_self_eq_true, Bool.or_false, Bool.false_or, Bool.true_or, Bool.or_true, Bool.and_true, Bool.true_and, Bool.false_and, Bool.and_false, if_true, if_false, Bool.false_eq_true, true_and, and_true, false_and, and_false, and_self, not_true, not_false_iff, reduceCtorEq, forall_const, false_imp_iff, true_imp_iff, true_or, or_true, false_or, or_false, o1, e10, e11, wp_go C1, o2, e20, e21]
  rfl
theorem rt_t7 {a b : Nat} {K c : Int32} (k8 : K = 0 ∨ K = 1 ∨ K = 2 ∨ K = 3 ∨ K = 4 ∨ K = 5 ∨ K = 6 ∨ K = 7) (x : Int32) : RunT a b K c 12 7 1 x ((axPT K (nI b) c x).1 + (x ^^^ nI b), 80 :: ((axPT K (nI b) c x).2 ++ [11])) := by
  intro n hn h t d G h1 h2
  obtain ⟨n, rfl⟩ : ∃ k, n = k + 2 := ⟨n - 2, by omega⟩
  simp only [List.length_cons, List.length_append, List.length_nil] at h1
  refine t_res G (by omega) (by omega) (by decide) (by decide) x (n + 1) ?_
  have eb : bodyOf 7 1 = 80 := by decide
  have ea : abovOf 7 1 = 0 := by decide
  rw [ea]
  rw [eb, eq_G_X0_run, if_neg (by decide)]
  have G1 := G.rn 80
  obtain ⟨-, -, -, o1, e10, e11, x1⟩ := G.rn 80
  have C1 := (rt_pt k8 (Or.inl rfl) x) n (by omega) (rnC h 80) (t + 1) (d + 1) G1 (by (try simp only [List.length_cons, List.length_append, List.length_nil] at h1 ⊢); omega) (by omega)
  have G2 := G1.rns (axPT K (nI b) c x).2
  obtain ⟨-, -, -, o2, e20, e21, x2⟩ := G1.rns (axPT K (nI b) c x).2
  have C2 := (rt_f0 (Or.inl rfl) x) n (by omega) (rnsC (rnC h 80) (axPT K (nI b) c x).2) (t + 1 + (axPT K (nI b) c x).2.length) (d + 1) G2 (by (try simp only [List.length_cons, List.length_append, List.length_nil] at h1 ⊢); omega) (by omega)
  have G3 := G2.rns [11]
  obtain ⟨-, -, -, o3, e30, e31, x3⟩ := G2.rns [11]
  unfold fb_X0_runBody
  simp (config := {decide := true, maxSteps := 5000000}) (disch := omega) only [↓reduceIte, ↓wp_some, ↓wp_none, wp_ite, ↓wp_cl, ↓wp_rz, ↓wp_nz, ↓wp_nzL, ↓wp_fI, ↓wp_fL, ↓wp_fR, ↓wp_pI, ↓wp_pL, ↓wp_pR, ↓wp_pZ, ↓wp_aI, ↓wp_aL, ↓wp_aR, ↓wp_bI, ↓wp_bL, ↓wp_bR, ↓wp_rO, ↓wp_cO, ↓wp_nO, ↓wp_iO, ↓wp_tbI, ↓wp_tbL, ↓wp_jn, q_okA, q_gI, q_gL, q_gR, q_sI, q_sL, q_sR, q_SI, q_SL, q_SR, q_IL, q_IR, q_LI, q_LR, q_RI, q_RL, List.contains_cons, List.contains_nil, Nat.reduceBEq, Nat.reduceEqDiff, beq_self_eq_true, Bool.or_false, Bool.false_or, Bool.true_or, Bool.or_true, Bool.and_true, Bool.true_and, Bool.false_and, Bool.and_false, if_true, if_false, Bool.false_eq_true, true_and, and_true, false_and, and_false, and_self, not_true, not_false_iff, reduceCtorEq, forall_const, false_imp_iff, true_imp_iff, true_or, or_true, false_or, or_false, o1, e10, e11, wp_go C1, o2, e20, e21, wp_go C2, o3, e30, e31]
  exact rnsC_app _ _ _
theorem rt_tells {a b : Nat} {K c : Int32} (k8 : K = 0 ∨ K = 1 ∨ K = 2 ∨ K = 3 ∨ K = 4 ∨ K = 5 ∨ K = 6 ∨ K = 7) (x : Int32) : RunT a b K c 12 K 1 x (axT K (nI b) c x) := by
  unfold axT
  by_cases c1 : K = 5
  · subst c1
    rw [if_pos rfl]
    exact rt_t5 k8 x
  rw [if_neg c1]
  by_cases c2 : K = 7
  · subst c2
    rw [if_pos rfl]
    exact rt_t7 k8 x
  rw [if_neg c2]
  by_cases c3 : K = 2
  · subst c3
    rw [if_pos rfl]
    exact (rt_rt k8 x).mono (by omega)
  · rw [if_neg c3]
    exact (rt_pt k8 (by grind) x).mono (by omega)
theorem rt_pe {a b : Nat} {K c : Int32} (k8 : K = 0 ∨ K = 1 ∨ K = 2 ∨ K = 3 ∨ K = 4 ∨ K = 5 ∨ K = 6 ∨ K = 7) {f : Int32} (hf : f = 0 ∨ f = 1 ∨ f = 2 ∨ f = 3 ∨ f = 5 ∨ f = 7) (x : Int32) : RunT a b K c 14 f 3 x (axPE K (nI b) c x) := by
  intro n hn h t d G h1 h2
  obtain ⟨n, rfl⟩ : ∃ k, n = k + 2 := ⟨n - 2, by omega⟩
  unfold axPE at h1 ⊢
  simp only [List.length_cons, List.length_append, List.length_nil] at h1
  refine t_res G (by omega) (by omega) (by grind) (by decide) x (n + 1) ?_
  have eb : bodyOf f 3 = 2 := by rcases hf with rfl | rfl | rfl | rfl | rfl | rfl <;> decide
  rw [eb, eq_G_X0_run, if_neg (by decide)]
  have G1 := G.rn 2
  obtain ⟨-, -, -, o1, e10, e11, x1⟩ := G.rn 2
  have C1 := (rt_tells k8 x) n (by omega) (rnC h 2) (t + 1) (d + 1) G1 (by (try simp only [List.length_cons, List.length_append, List.length_nil] at h1 ⊢); omega) (by omega)
  have G2 := G1.rns (axT K (nI b) c x).2
  obtain ⟨-, -, -, o2, e20, e21, x2⟩ := G1.rns (axT K (nI b) c x).2
  have C2 := (rt_finds k8 1) n (by omega) (rnsC (rnC h 2) (axT K (nI b) c x).2) (t + 1 + (axT K (nI b) c x).2.length) (d + 1) G2 (by (try simp only [List.length_cons, List.length_append, List.length_nil] at h1 ⊢); omega) (by omega)
  have G3 := G2.rns (axF K (nI b) 1).2
  obtain ⟨-, -, -, o3, e30, e31, x3⟩ := G2.rns (axF K (nI b) 1).2
  unfold fb_X0_runBody
  simp (config := {decide := true, maxSteps := 5000000}) (disch := omega) only [↓reduceIte, ↓wp_some, ↓wp_none, wp_ite, ↓wp_cl, ↓wp_rz, ↓wp_nz, ↓wp_nzL, ↓wp_fI, ↓wp_fL, ↓wp_fR, ↓wp_pI, ↓wp_pL, ↓wp_pR, ↓wp_pZ, ↓wp_aI, ↓wp_aL, ↓wp_aR, ↓wp_bI, ↓wp_bL, ↓wp_bR, ↓wp_rO, ↓wp_cO, ↓wp_nO, ↓wp_iO, ↓wp_tbI, ↓wp_tbL, ↓wp_jn, q_okA, q_gI, q_gL, q_gR, q_sI, q_sL, q_sR, q_SI, q_SL, q_SR, q_IL, q_IR, q_LI, q_LR, q_RI, q_RL, List.contains_cons, List.contains_nil, Nat.reduceBEq, Nat.reduceEqDiff, beq_self_eq_true, Bool.or_false, Bool.false_or, Bool.true_or, Bool.or_true, Bool.and_true, Bool.true_and, Bool.false_and, Bool.and_false, if_true, if_false, Bool.false_eq_true, true_and, and_true, false_and, and_false, and_self, not_true, not_false_iff, reduceCtorEq, forall_const, false_imp_iff, true_imp_iff, true_or, or_true, false_or, or_false, o1, e10, e11, wp_go C1, o2, e20, e21, wp_go C2, o3, e30, e31]
  exact rnsC_app _ _ _
theorem rt_e4 {a b : Nat} {K c : Int32} (k8 : K = 0 ∨ K = 1 ∨ K = 2 ∨ K = 3 ∨ K = 4 ∨ K = 5 ∨ K = 6 ∨ K = 7) (x : Int32) : RunT a b K c 16 4 3 x ((axPE K (nI b) c (x + 1)).1, 51 :: (axPE K (nI b) c (x + 1)).2) := by
  intro n hn h t d G h1 h2
  obtain ⟨n, rfl⟩ : ∃ k, n = k + 2 := ⟨n - 2, by omega⟩
  simp only [List.length_cons, List.length_append, List.length_nil] at h1
  refine t_res G (by omega) (by omega) (by decide) (by decide) x (n + 1) ?_
  have eb : bodyOf 4 3 = 51 := by decide
  have ea : abovOf 4 3 = 1 := by decide
  rw [ea]
  rw [eb, eq_G_X0_run, if_neg (by decide)]
  have G1 := G.rn 51
  obtain ⟨-, -, -, o1, e10, e11, x1⟩ := G.rn 51
  have C1 := (rt_pe k8 (Or.inr (Or.inl rfl)) (x + 1)) n (by omega) (rnC h 51) (t + 1) (d + 1) G1 (by (try simp only [List.length_cons, List.length_append, List.length_nil] at h1 ⊢); omega) (by omega)
  have G2 := G1.rns (axPE K (nI b) c (x + 1)).2
  obtain ⟨-, -, -, o2, e20, e21, x2⟩ := G1.rns (axPE K (nI b) c (x + 1)).2
  unfold fb_X0_runBody
  simp (config := {decide := true, maxSteps := 5000000}) (disch := omega) only [↓reduceIte, ↓wp_some, ↓wp_none, wp_ite, ↓wp_cl, ↓wp_rz, ↓wp_nz, ↓wp_nzL, ↓wp_fI, ↓wp_fL, ↓wp_fR, ↓wp_pI, ↓wp_pL, ↓wp_pR, ↓wp_pZ, ↓wp_aI, ↓wp_aL, ↓wp_aR, ↓wp_bI, ↓wp_bL, ↓wp_bR, ↓wp_rO, ↓wp_cO, ↓wp_nO, ↓wp_iO, ↓wp_tbI, ↓wp_tbL, ↓wp_jn, q_okA, q_gI, q_gL, q_gR, q_sI, q_sL, q_sR, q_SI, q_SL, q_SR, q_IL, q_IR, q_LI, q_LR, q_RI, q_RL, List.contains_cons, List.contains_nil, Nat.reduceBEq, Nat.reduceEqDiff, beq_self_eq_true, Bool.or_false, Bool.false_or, Bool.true_or, Bool.or_true, Bool.and_true, Bool.true_and, Bool.false_and, Bool.and_false, if_true, if_false, Bool.false_eq_true, true_and, and_true, false_and, and_false, and_self, not_true, not_false_iff, reduceCtorEq, forall_const, false_imp_iff, true_imp_iff, true_or, or_true, false_or, or_false, o1, e10, e11, wp_go C1, o2, e20, e21]
  rfl
theorem rt_e6 {a b : Nat} {K c : Int32} (k8 : K = 0 ∨ K = 1 ∨ K = 2 ∨ K = 3 ∨ K = 4 ∨ K = 5 ∨ K = 6 ∨ K = 7) (x : Int32) : RunT a b K c 16 6 3 x ((axPE K (nI b) c x).1 * 2, 70 :: (axPE K (nI b) c x).2) := by
  intro n hn h t d G h1 h2
  obtain ⟨n, rfl⟩ : ∃ k, n = k + 2 := ⟨n - 2, by omega⟩
  simp only [List.length_cons, List.length_append, List.length_nil] at h1
  refine t_res G (by omega) (by omega) (by decide) (by decide) x (n + 1) ?_
  have eb : bodyOf 6 3 = 70 := by decide
  have ea : abovOf 6 3 = 0 := by decide
  rw [ea]
  rw [eb, eq_G_X0_run, if_neg (by decide)]
  have G1 := G.rn 70
  obtain ⟨-, -, -, o1, e10, e11, x1⟩ := G.rn 70
  have C1 := (rt_pe k8 (Or.inl rfl) x) n (by omega) (rnC h 70) (t + 1) (d + 1) G1 (by (try simp only [List.length_cons, List.length_append, List.length_nil] at h1 ⊢); omega) (by omega)
  have G2 := G1.rns (axPE K (nI b) c x).2
  obtain ⟨-, -, -, o2, e20, e21, x2⟩ := G1.rns (axPE K (nI b) c x).2
  unfold fb_X0_runBody
  simp (config := {decide := true, maxSteps := 5000000}) (disch := omega) only [↓reduceIte, ↓wp_some, ↓wp_none, wp_ite, ↓wp_cl, ↓wp_rz, ↓wp_nz, ↓wp_nzL, ↓wp_fI, ↓wp_fL, ↓wp_fR, ↓wp_pI, ↓wp_pL, ↓wp_pR, ↓wp_pZ, ↓wp_aI, ↓wp_aL, ↓wp_aR, ↓wp_bI, ↓wp_bL, ↓wp_bR, ↓wp_rO, ↓wp_cO, ↓wp_nO, ↓wp_iO, ↓wp_tbI, ↓wp_tbL, ↓wp_jn, q_okA, q_gI, q_gL, q_gR, q_sI, q_sL, q_sR, q_SI, q_SL, q_SR, q_IL, q_IR, q_LI, q_LR, q_RI, q_RL, List.contains_cons, List.contains_nil, Nat.reduceBEq, Nat.reduceEqDiff, beq_self_eq_true, Bool.or_false, Bool.false_or, Bool.true_or, Bool.or_true, Bool.and_true, Bool.true_and, Bool.false_and, Bool.and_false, if_true, if_false, Bool.false_eq_true, true_and, and_true, false_and, and_false, and_self, not_true, not_false_iff, reduceCtorEq, forall_const, false_imp_iff, true_imp_iff, true_or, or_true, false_or, or_false, o1, e10, e11, wp_go C1, o2, e20, e21]
  rfl
theorem rt_ends {a b : Nat} {K c : Int32} (k8 : K = 0 ∨ K = 1 ∨ K = 2 ∨ K = 3 ∨ K = 4 ∨ K = 5 ∨ K = 6 ∨ K = 7) (x : Int32) : RunT a b K c 16 K 3 x (axE K (nI b) c x) := by
  unfold axE
  by_cases c1 : K = 4
  · subst c1
    rw [if_pos rfl]
    exact rt_e4 k8 x
  rw [if_neg c1]
  by_cases c2 : K = 6
  · subst c2
    rw [if_pos rfl]
    exact rt_e6 k8 x
  · rw [if_neg c2]
    exact (rt_pe k8 (by grind) x).mono (by omega)
theorem RC.rn {h w : AH} {P : Nat → Prog} {ad : Nat → Nat} (R : RC h w P ad) {t : Nat} (ht : t < 24) (e : hI w 49 84 = nI t) (v : Int32) : RC (rnC h v) (rnR w v) P ad := by
  have e2 : hI h 48 24 = nI t := by rw [R.tc]; exact e
  have cl : (nI t).toNatClampNeg = t := nI_clamp (by omega)
  unfold rnC rnR
  rw [e, e2, cl]
  refine R.fix ((R.l.wI _ _ _).wI _ _ _) rfl rfl (fun a ha => by rw [q_ne (by omega), q_ne (by omega)]) rfl (fun _ _ => rfl) rfl rfl ?_ ?_ ?_ ?_ ?_ ?_ ?_ ?_
  · exact R.g
  · exact R.mm
  · exact R.ll
  · exact R.rr
  · exact R.tt
  · exact R.kk
  · intro s hs; have := R.ss s hs; unfold shelfAt_ at *; rw [q_ne (show 36 + 2 * s ≠ 48 by omega), q_ne (show 36 + 2 * s ≠ 48 by omega)]; exact this
  · refine ⟨by rw [q_at]; exact q_at.symm, fun i hi => ?_⟩
    rw [q_atne (by omega), q_ne (a := 49) (by decide), q_II, q_II, R.tr hi]
    by_cases z : i = t
    · rw [if_pos ⟨rfl, z⟩, if_pos ⟨rfl, z⟩]
    · rw [if_neg (fun y => z y.2), if_neg (fun y => z y.2)]
theorem RC.rns {P : Nat → Prog} {ad : Nat → Nat} (L : List Int32) : ∀ {h w : AH} {t : Nat}, RC h w P ad → t + L.length ≤ 24 → hI w 49 84 = nI t → RC (rnsC h L) (rnsR w L) P ad := by
  induction L with
  | nil => intro h w t R _ _; exact R
  | cons v L ih =>
    intro h w t R h1 e
    simp only [List.length_cons] at h1
    exact ih (t := t + 1) (R.rn (by omega) e v) (by omega) (by unfold rnR; rw [q_at, e]; exact nI_1 t)
theorem SM.rns {h : AH} (L : List Int32) : ∀ {h1 : AH}, SM h h1 → SM h (rnsC h1 L) := by
  induction L with
  | nil => intro h1 s; exact s
  | cons v L ih => intro h1 s; exact ih ((s.wI 48 _ v (by omega)).wI 48 24 _ (by omega))
theorem act_l (k n c a x : Int32) : (act_ k n c a x).2.length ≤ 12 := by
  have := axH_l k n c x
  have := axT_l k n c x
  have := axF_l k n x
  have := axE_l k n c x
  unfold act_
  split
  · omega
  split
  · omega
  split <;> omega
theorem RC.tr0 {h w : AH} {P : Nat → Prog} {ad : Nat → Nat} (R : RC h w P ad) : RC (wI h 48 24 0) (wI w 49 84 0) P ad := by
  refine R.fix (R.l.wI _ _ _) rfl rfl (fun a ha => q_ne (by omega)) rfl (fun _ _ => rfl) rfl rfl ?_ ?_ ?_ ?_ ?_ ?_ ?_ ?_
  · exact R.g
  · exact R.mm
  · exact R.ll
  · exact R.rr
  · exact R.tt
  · exact R.kk
  · intro s hs; have := R.ss s hs; unfold shelfAt_ at *; rw [q_ne (show 36 + 2 * s ≠ 48 by omega)]; exact this
  · refine ⟨by rw [q_at]; exact q_at.symm, fun i hi => ?_⟩
    rw [q_atne (by omega), q_ne (by decide)]; exact R.tr hi
theorem c_act {h w : AH} {P : Nat → Prog} {ad : Nat → Nat} (R0 : RC h w P ad) (n : WN w) (b a x : Int32) : wp (f_X11_act (some 0) b a x h) (fun r h' => r = (s_act w b a x).1 ∧ RC h' (s_act w b a x).2 P ad ∧ SM h h') := by
  have l := R0.l
  have hn := n.n150
  have sm := (SM.refl h).wI 48 24 0 (by omega)
  have R := R0.tr0
  have n0 : WN (wI w 49 84 0) := n.of7 rfl rfl rfl rfl rfl rfl rfl rfl
  have ib : isBody_ (wI w 49 84 0) b = isBody_ w b := rfl
  have c24 : Int32.toNatClampNeg 24 = 24 := by decide
  unfold f_X11_act s_act
  by_cases z : isBody_ w b = true
  · obtain ⟨i, hi, rfl⟩ := isBody_ex n z
    have ci : (nI i).toNatClampNeg = i := nI_clamp (by omega)
    by_cases a1 : a < 0
    · have a2 : ¬ 0 ≤ a := Int32.not_le.mpr a1
      simp (config := {decide := true, maxSteps := 5000000}) (disch := omega) only [↓reduceIte, ↓wp_some, ↓wp_none, wp_ite, ↓wp_cl, ↓wp_rz, ↓wp_nz, ↓wp_nzL, ↓wp_fI, ↓wp_fL, ↓wp_fR, ↓wp_pI, ↓wp_pL, ↓wp_pR, ↓wp_pZ, ↓wp_aI, ↓wp_aL, ↓wp_aR, ↓wp_bI, ↓wp_bL, ↓wp_bR, ↓wp_rO, ↓wp_cO, ↓wp_nO, ↓wp_iO, ↓wp_tbI, ↓wp_tbL, ↓wp_jn, q_okT, q_okA, q_gI, q_gL, q_gR, q_sI, q_sL, q_sR, q_SI, q_SL, q_SR, q_IL, q_IR, q_LI, q_LR, q_RI, q_RL, List.contains_cons, List.contains_nil, Nat.reduceBEq, Nat.reduceEqDiff, beq_self_eq_true, Bool.or_false, Bool.false_or, Bool.true_or, Bool.or_true, Bool.and_true, Bool.true_and, Bool.false_and, Bool.and_false, if_true, if_false, Bool.false_eq_true, true_and, and_true, false_and, and_false, and_self, not_true, not_false_iff, reduceCtorEq, forall_const, false_imp_iff, true_imp_iff, true_or, or_true, false_or, or_false, l.r0_0, l.r0_1, l.r0_2, l.r0_3, l.r0_4, l.r0_5, l.r1_1, l.r1_2, l.r1_4, l.r1_6, l.r1_7, l.r1_8, l.r8_0, l.r8_3, l.r8_4, l.r8_5, l.r8_6, l.r8_7, l.r8_8, l.r8_9, l.r9_1, l.r9_2, l.r9_3, l.r9_4, l.r9_9, l.r21_0, l.r21_1, l.r21_3, l.r21_4, l.r21_5, l.r21_6, l.r21_7, l.r21_8, l.r28_3, l.r28_4, l.r28_5, l.r28_6, l.r28_7, l.r28_9, l.r35_0, l.r35_1, l.r35_2, l.r35_3, l.r35_4, l.r35_5, l.r36_4, l.r38_4, l.r40_4, l.r42_4, l.r44_4, l.r46_4, l.s0, l.s1, l.s2, l.s3, l.s4, l.s5, l.s6, l.s7, l.s8, l.s9, l.s10, l.s11, l.s12, l.s13, l.s14, l.s15, l.s16, l.s17, l.s18, l.s19, l.s20, l.s21, l.s22, l.s23, l.s24, l.s25, l.s26, l.s27, l.s28, l.s29, l.s30, l.s31, l.s32, l.s33, l.s34, l.s35, l.s36, l.s37, l.s38, l.s39, l.s40, l.s41, l.s42, l.s43, l.s44, l.s45, l.s46, l.s47, l.s48, c24, wp_use (t_X3_bodyAt R.l n0 R.B _), ib, z, a1, a2]
      exact ⟨R, sm⟩
    have a2 : 0 ≤ a := Int32.not_lt.mp a1
    by_cases a3 : a < 4
    · have a4 : a ≤ 3 := by grind
      have hA : a = 0 ∨ a = 1 ∨ a = 2 ∨ a = 3 := by grind
      have kk := n.k hi
      have k8 : hI w 51 i = 0 ∨ hI w 51 i = 1 ∨ hI w 51 i = 2 ∨ hI w 51 i = 3 ∨ hI w 51 i = 4 ∨ hI w 51 i = 5 ∨ hI w 51 i = 6 ∨ hI w 51 i = 7 := by grind
      have hi0 : i < nB (wI w 49 84 0) := hi
      obtain ⟨q, q1, q2⟩ := R.B.sx n0 hi0
      have q1' : (hS h)[ad i]? = some q := q1
      have q3 : (q.fst == 0 || (q.fst == 1 || (q.fst == 2 || q.fst == 9))) = true := by
        simp only [List.contains_cons, List.contains_nil, Bool.or_false] at q2; exact q2
      have okt : okT (wI h 48 24 0) [0, 1, 2, 9] (some (ad i)) = true := by simp only [okT, q1]; exact q2
      have h107 := ad_ge R.B.1 (show i ≤ nB (wI w 49 84 0) by omega)
      have x1 : hI (wI h 48 24 0) (ad i) 1 = hI w 51 i := R.B.x1 hi0
      have G : GC (ad i) i (hI w 51 i) (cellNow_ w i) (wI h 48 24 0) 0 := ⟨by rw [q_at]; rfl, R.l.s48, h107, okt, R.B.x0 hi0, x1, fun kb => ⟨by simp only [okT, R.B.s0 hi0]; rw [show hI (wI w 49 84 0) 51 i = hI w 51 i from rfl, (sB_box kb).1]; rfl, R.B.x9 hi0 kb⟩⟩
      have Ll := act_l (hI w 51 i) (nI i) (cellNow_ w i) a x
      have fin : wp (f_X0_run (some (ad i)) (hI w 51 i) a x (some 48) 0 (wI h 48 24 0)) (fun r h' => r = (act_ (hI w 51 i) (nI i) (cellNow_ w i) a x).1 ∧ h' = rnsC (wI h 48 24 0) (act_ (hI w 51 i) (nI i) (cellNow_ w i) a x).2) := by
        unfold f_X0_run act_
        rw [opq_eq]
        by_cases a0 : a = 0
        · rw [if_pos a0, a0]; exact (rt_hides k8 x) 100 (by omega) _ 0 0 G (by have := axH_l (hI w 51 i) (nI i) (cellNow_ w i) x; omega) (by omega)
        by_cases a1 : a = 1
        · rw [if_neg a0, if_pos a1, a1]; exact (rt_tells k8 x) 100 (by omega) _ 0 0 G (by have := axT_l (hI w 51 i) (nI i) (cellNow_ w i) x; omega) (by omega)
        by_cases a2 : a = 2
        · rw [if_neg a0, if_neg a1, if_pos a2, a2]; exact (rt_finds k8 x) 100 (by omega) _ 0 0 G (by have := axF_l (hI w 51 i) (nI i) x; omega) (by omega)
        · have a3 : a = 3 := by grind
          rw [if_neg a0, if_neg a1, if_neg a2, a3]; exact (rt_ends k8 x) 100 (by omega) _ 0 0 G (by have := axE_l (hI w 51 i) (nI i) (cellNow_ w i) x; omega) (by omega)
      have RR := R.rns (act_ (hI w 51 i) (nI i) (cellNow_ w i) a x).2 (t := 0) (by omega) q_at
      have SS := sm.rns (act_ (hI w 51 i) (nI i) (cellNow_ w i) a x).2
      have pf : wp (f_X0_perform (some (ad i)) a x (some 48) (wI h 48 24 0)) (fun r h' => r = (act_ (hI w 51 i) (nI i) (cellNow_ w i) a x).1 ∧ h' = rnsC (wI h 48 24 0) (act_ (hI w 51 i) (nI i) (cellNow_ w i) a x).2) := by
        unfold f_X0_perform
        simp (config := {decide := true, maxSteps := 5000000}) (disch := omega) only [↓reduceIte, ↓wp_some, ↓wp_none, wp_ite, ↓wp_cl, ↓wp_rz, ↓wp_nz, ↓wp_nzL, ↓wp_fI, ↓wp_fL, ↓wp_fR, ↓wp_pI, ↓wp_pL, ↓wp_pR, ↓wp_pZ, ↓wp_aI, ↓wp_aL, ↓wp_aR, ↓wp_bI, ↓wp_bL, ↓wp_bR, ↓wp_rO, ↓wp_cO, ↓wp_nO, ↓wp_iO, ↓wp_tbI, ↓wp_tbL, ↓wp_jn, q_okA, q_gI, q_gL, q_gR, q_sI, q_sL, q_sR, q_SI, q_SL, q_SR, q_IL, q_IR, q_LI, q_LR, q_RI, q_RL, List.contains_cons, List.contains_nil, Nat.reduceBEq, Nat.reduceEqDiff, beq_self_eq_true, Bool.or_false, Bool.false_or, Bool.true_or, Bool.or_true, Bool.and_true, Bool.true_and, Bool.false_and, Bool.and_false, if_true, if_false, Bool.false_eq_true, true_and, and_true, false_and, and_false, and_self, not_true, not_false_iff, reduceCtorEq, forall_const, false_imp_iff, true_imp_iff, true_or, or_true, false_or, or_false, okt, x1, wp_go fin]
      simp (config := {decide := true, maxSteps := 5000000}) (disch := omega) only [↓reduceIte, ↓wp_some, ↓wp_none, wp_ite, ↓wp_cl, ↓wp_rz, ↓wp_nz, ↓wp_nzL, ↓wp_fI, ↓wp_fL, ↓wp_fR, ↓wp_pI, ↓wp_pL, ↓wp_pR, ↓wp_pZ, ↓wp_aI, ↓wp_aL, ↓wp_aR, ↓wp_bI, ↓wp_bL, ↓wp_bR, ↓wp_rO, ↓wp_cO, ↓wp_nO, ↓wp_iO, ↓wp_tbI, ↓wp_tbL, ↓wp_jn, q_okT, q_okA, q_gI, q_gL, q_gR, q_sI, q_sL, q_sR, q_SI, q_SL, q_SR, q_IL, q_IR, q_LI, q_LR, q_RI, q_RL, List.contains_cons, List.contains_nil, Nat.reduceBEq, Nat.reduceEqDiff, beq_self_eq_true, Bool.or_false, Bool.false_or, Bool.true_or, Bool.or_true, Bool.and_true, Bool.true_and, Bool.false_and, Bool.and_false, if_true, if_false, Bool.false_eq_true, true_and, and_true, false_and, and_false, and_self, not_true, not_false_iff, reduceCtorEq, forall_const, false_imp_iff, true_imp_iff, true_or, or_true, false_or, or_false, l.r0_0, l.r0_1, l.r0_2, l.r0_3, l.r0_4, l.r0_5, l.r1_1, l.r1_2, l.r1_4, l.r1_6, l.r1_7, l.r1_8, l.r8_0, l.r8_3, l.r8_4, l.r8_5, l.r8_6, l.r8_7, l.r8_8, l.r8_9, l.r9_1, l.r9_2, l.r9_3, l.r9_4, l.r9_9, l.r21_0, l.r21_1, l.r21_3, l.r21_4, l.r21_5, l.r21_6, l.r21_7, l.r21_8, l.r28_3, l.r28_4, l.r28_5, l.r28_6, l.r28_7, l.r28_9, l.r35_0, l.r35_1, l.r35_2, l.r35_3, l.r35_4, l.r35_5, l.r36_4, l.r38_4, l.r40_4, l.r42_4, l.r44_4, l.r46_4, l.s0, l.s1, l.s2, l.s3, l.s4, l.s5, l.s6, l.s7, l.s8, l.s9, l.s10, l.s11, l.s12, l.s13, l.s14, l.s15, l.s16, l.s17, l.s18, l.s19, l.s20, l.s21, l.s22, l.s23, l.s24, l.s25, l.s26, l.s27, l.s28, l.s29, l.s30, l.s31, l.s32, l.s33, l.s34, l.s35, l.s36, l.s37, l.s38, l.s39, l.s40, l.s41, l.s42, l.s43, l.s44, l.s45, l.s46, l.s47, l.s48, c24, wp_use (t_X3_bodyAt R.l n0 R.B _), ib, z, a1, a2, a3, a4, ci, q1', q3, wp_go pf]
      exact ⟨RR, SS⟩
    · have a4 : ¬ a ≤ 3 := by grind
      simp (config := {decide := true, maxSteps := 5000000}) (disch := omega) only [↓reduceIte, ↓wp_some, ↓wp_none, wp_ite, ↓wp_cl, ↓wp_rz, ↓wp_nz, ↓wp_nzL, ↓wp_fI, ↓wp_fL, ↓wp_fR, ↓wp_pI, ↓wp_pL, ↓wp_pR, ↓wp_pZ, ↓wp_aI, ↓wp_aL, ↓wp_aR, ↓wp_bI, ↓wp_bL, ↓wp_bR, ↓wp_rO, ↓wp_cO, ↓wp_nO, ↓wp_iO, ↓wp_tbI, ↓wp_tbL, ↓wp_jn, q_okT, q_okA, q_gI, q_gL, q_gR, q_sI, q_sL, q_sR, q_SI, q_SL, q_SR, q_IL, q_IR, q_LI, q_LR, q_RI, q_RL, List.contains_cons, List.contains_nil, Nat.reduceBEq, Nat.reduceEqDiff, beq_self_eq_true, Bool.or_false, Bool.false_or, Bool.true_or, Bool.or_true, Bool.and_true, Bool.true_and, Bool.false_and, Bool.and_false, if_true, if_false, Bool.false_eq_true, true_and, and_true, false_and, and_false, and_self, not_true, not_false_iff, reduceCtorEq, forall_const, false_imp_iff, true_imp_iff, true_or, or_true, false_or, or_false, l.r0_0, l.r0_1, l.r0_2, l.r0_3, l.r0_4, l.r0_5, l.r1_1, l.r1_2, l.r1_4, l.r1_6, l.r1_7, l.r1_8, l.r8_0, l.r8_3, l.r8_4, l.r8_5, l.r8_6, l.r8_7, l.r8_8, l.r8_9, l.r9_1, l.r9_2, l.r9_3, l.r9_4, l.r9_9, l.r21_0, l.r21_1, l.r21_3, l.r21_4, l.r21_5, l.r21_6, l.r21_7, l.r21_8, l.r28_3, l.r28_4, l.r28_5, l.r28_6, l.r28_7, l.r28_9, l.r35_0, l.r35_1, l.r35_2, l.r35_3, l.r35_4, l.r35_5, l.r36_4, l.r38_4, l.r40_4, l.r42_4, l.r44_4, l.r46_4, l.s0, l.s1, l.s2, l.s3, l.s4, l.s5, l.s6, l.s7, l.s8, l.s9, l.s10, l.s11, l.s12, l.s13, l.s14, l.s15, l.s16, l.s17, l.s18, l.s19, l.s20, l.s21, l.s22, l.s23, l.s24, l.s25, l.s26, l.s27, l.s28, l.s29, l.s30, l.s31, l.s32, l.s33, l.s34, l.s35, l.s36, l.s37, l.s38, l.s39, l.s40, l.s41, l.s42, l.s43, l.s44, l.s45, l.s46, l.s47, l.s48, c24, wp_use (t_X3_bodyAt R.l n0 R.B _), ib, z, a1, a2, a3, a4]
      exact ⟨R, sm⟩
  · simp (config := {decide := true, maxSteps := 5000000}) (disch := omega) only [↓reduceIte, ↓wp_some, ↓wp_none, wp_ite, ↓wp_cl, ↓wp_rz, ↓wp_nz, ↓wp_nzL, ↓wp_fI, ↓wp_fL, ↓wp_fR, ↓wp_pI, ↓wp_pL, ↓wp_pR, ↓wp_pZ, ↓wp_aI, ↓wp_aL, ↓wp_aR, ↓wp_bI, ↓wp_bL, ↓wp_bR, ↓wp_rO, ↓wp_cO, ↓wp_nO, ↓wp_iO, ↓wp_tbI, ↓wp_tbL, ↓wp_jn, q_okT, q_okA, q_gI, q_gL, q_gR, q_sI, q_sL, q_sR, q_SI, q_SL, q_SR, q_IL, q_IR, q_LI, q_LR, q_RI, q_RL, List.contains_cons, List.contains_nil, Nat.reduceBEq, Nat.reduceEqDiff, beq_self_eq_true, Bool.or_false, Bool.false_or, Bool.true_or, Bool.or_true, Bool.and_true, Bool.true_and, Bool.false_and, Bool.and_false, if_true, if_false, Bool.false_eq_true, true_and, and_true, false_and, and_false, and_self, not_true, not_false_iff, reduceCtorEq, forall_const, false_imp_iff, true_imp_iff, true_or, or_true, false_or, or_false, l.r0_0, l.r0_1, l.r0_2, l.r0_3, l.r0_4, l.r0_5, l.r1_1, l.r1_2, l.r1_4, l.r1_6, l.r1_7, l.r1_8, l.r8_0, l.r8_3, l.r8_4, l.r8_5, l.r8_6, l.r8_7, l.r8_8, l.r8_9, l.r9_1, l.r9_2, l.r9_3, l.r9_4, l.r9_9, l.r21_0, l.r21_1, l.r21_3, l.r21_4, l.r21_5, l.r21_6, l.r21_7, l.r21_8, l.r28_3, l.r28_4, l.r28_5, l.r28_6, l.r28_7, l.r28_9, l.r35_0, l.r35_1, l.r35_2, l.r35_3, l.r35_4, l.r35_5, l.r36_4, l.r38_4, l.r40_4, l.r42_4, l.r44_4, l.r46_4, l.s0, l.s1, l.s2, l.s3, l.s4, l.s5, l.s6, l.s7, l.s8, l.s9, l.s10, l.s11, l.s12, l.s13, l.s14, l.s15, l.s16, l.s17, l.s18, l.s19, l.s20, l.s21, l.s22, l.s23, l.s24, l.s25, l.s26, l.s27, l.s28, l.s29, l.s30, l.s31, l.s32, l.s33, l.s34, l.s35, l.s36, l.s37, l.s38, l.s39, l.s40, l.s41, l.s42, l.s43, l.s44, l.s45, l.s46, l.s47, l.s48, c24, wp_use (t_X3_bodyAt R.l n0 R.B _), ib, z]
    exact ⟨R, sm⟩
