/-! days -/
def w_days (w : AH) (a : Int32) : Int32 × AH := if a < 1 ∨ 100 < a ∨ 999 < hI w 49 1 + a then (-1, w) else (hI w 49 1 + a, wI w 49 1 (hI w 49 1 + a))
theorem t_X11_days (h w : AH) (l : Lay h) (e : hI h 1 0 = hI w 49 1) (a : Int32) : wp (f_X11_days (some 0) a h) (fun v h' => v = (w_days w a).1 ∧ Lay h' ∧ hI h' 1 0 = hI (w_days w a).2 49 1) := by
  unfold f_X11_days w_days
  simp only [wp_some, wp_none, wp_ite, wp_cl, wp_rz, wp_nz, wp_nzL, wp_fI, wp_fL, wp_fR, wp_pI, wp_pL, wp_pR, wp_pZ, wp_aI, wp_aL, wp_aR, wp_bI, wp_bL, wp_bR, wp_rO, wp_cO, wp_nO, wp_iO, wp_tbI, wp_tbL, wp_jn, q_okT, q_okA, q_gI, q_gL, q_gR, q_sI, q_sL, q_sR, q_SI, q_SL, q_SR, q_II, q_IL, q_IR, q_LI, q_LL, q_LR, q_RI, q_RL, q_RR, List.contains_cons, List.contains_nil, Nat.reduceBEq, Nat.reduceEqDiff, beq_self_eq_true, Bool.or_false, Bool.false_or, Bool.true_or, Bool.or_true, Bool.and_true, Bool.true_and, Bool.false_and, Bool.and_false, if_true, if_false, Bool.false_eq_true, true_and, and_true, false_and, and_false, and_self, not_true, not_false_iff, reduceCtorEq, forall_const, false_imp_iff, true_imp_iff, true_or, or_true, false_or, or_false, l.S 0 (by decide), l.S 1 (by decide), tS, l.r0_0, e]
  grind [Lay.wI, q_II]
theorem t_X12_in (h : AH) (v a b : Int32) : wp (f_X12_in v a b h) (fun r h' => r = (if a ≤ v ∧ v ≤ b then 1 else 0) ∧ h' = h) := by
  unfold f_X12_in
  simp only [wp_some, wp_none, wp_ite, wp_cl, wp_rz, wp_nz, wp_nzL, wp_fI, wp_fL, wp_fR, wp_pI, wp_pL, wp_pR, wp_pZ, wp_aI, wp_aL, wp_aR, wp_bI, wp_bL, wp_bR, wp_rO, wp_cO, wp_nO, wp_iO, wp_tbI, wp_tbL, wp_jn, q_okT, q_okA, q_gI, q_gL, q_gR, q_sI, q_sL, q_sR, q_SI, q_SL, q_SR, q_II, q_IL, q_IR, q_LI, q_LL, q_LR, q_RI, q_RL, q_RR, List.contains_cons, List.contains_nil, Nat.reduceBEq, Nat.reduceEqDiff, beq_self_eq_true, Bool.or_false, Bool.false_or, Bool.true_or, Bool.or_true, Bool.and_true, Bool.true_and, Bool.false_and, Bool.and_false, if_true, if_false, Bool.false_eq_true, true_and, and_true, false_and, and_false, and_self, not_true, not_false_iff, reduceCtorEq, forall_const, false_imp_iff, true_imp_iff, true_or, or_true, false_or, or_false]
  grind
/-- a call whose answer is known and that changes nothing -/
theorem wp_use {α : Type} {o : Option (α × AH)} {v : α} {h : AH} {Q : α → AH → Prop} (e : wp o (fun r h' => r = v ∧ h' = h)) : wp o Q ↔ Q v h := by
  obtain ⟨x, e1, e2, e3⟩ := e
  constructor
  · intro ⟨y, q1, q2⟩
    rw [e1] at q1
    cases q1
    rw [← e2, ← e3]
    exact q2
  · intro q
    exact ⟨x, e1, by rw [e2, e3]; exact q⟩
theorem t_X12_days (h : AH) (l : Lay h) (a : Int32) : wp (f_X12_days (some 49) a h) (fun v h' => v = (w_days h a).1 ∧ h' = (w_days h a).2) := by
  unfold f_X12_days w_days
  simp only [wp_some, wp_none, wp_ite, wp_cl, wp_rz, wp_nz, wp_nzL, wp_fI, wp_fL, wp_fR, wp_pI, wp_pL, wp_pR, wp_pZ, wp_aI, wp_aL, wp_aR, wp_bI, wp_bL, wp_bR, wp_rO, wp_cO, wp_nO, wp_iO, wp_tbI, wp_tbL, wp_jn, q_okT, q_okA, q_gI, q_gL, q_gR, q_sI, q_sL, q_sR, q_SI, q_SL, q_SR, q_II, q_IL, q_IR, q_LI, q_LL, q_LR, q_RI, q_RL, q_RR, List.contains_cons, List.contains_nil, Nat.reduceBEq, Nat.reduceEqDiff, beq_self_eq_true, Bool.or_false, Bool.false_or, Bool.true_or, Bool.or_true, Bool.and_true, Bool.true_and, Bool.false_and, Bool.and_false, if_true, if_false, Bool.false_eq_true, true_and, and_true, false_and, and_false, and_self, not_true, not_false_iff, reduceCtorEq, forall_const, false_imp_iff, true_imp_iff, true_or, or_true, false_or, or_false, wp_use (t_X12_in _ _ _ _), l.S 49 (by decide), tS]
  grind [Lay.wI, q_II]
theorem t_fillI (h : AH) (a n : Nat) (v : Int32) (e : (hS h)[a]? = some (20, n)) (hn : n ≤ 1000) : wp (f_J7_fill_53178 (some a) v h) (fun _ h' => h' = fillI h a n v) := by
  unfold f_J7_fill_53178
  rw [wp_aN e]
  refine wp_lp2 (fun x h1 => ∃ i : Nat, i ≤ n ∧ x = nI i ∧ h1 = fillI h a i v) (fun x _ => n - x.toNatClampNeg) ?_ ⟨0, Nat.zero_le n, rfl, (fillI_0 h a v).symm⟩ (by rw [lpN_eq]; omega)
  rintro G x h1 ⟨i, hi, rfl, rfl⟩ ih
  have hc : (nI i).toNatClampNeg = i := nI_clamp (by omega)
  by_cases hlt : i = n
  · subst hlt
    simp only [wp_ite, wp_some, nI_leI (show i < 2 ^ 31 by omega) (show i < 2 ^ 31 by omega)]
    simp
  · simp only [wp_some, wp_none, wp_ite, wp_cl, wp_rz, wp_nz, wp_nzL, wp_fI, wp_fL, wp_fR, wp_pI, wp_pL, wp_pR, wp_pZ, wp_aI, wp_aL, wp_aR, wp_bI, wp_bL, wp_bR, wp_rO, wp_cO, wp_nO, wp_iO, wp_tbI, wp_tbL, wp_jn, q_okT, q_okA, q_gI, q_gL, q_gR, q_sI, q_sL, q_sR, q_SI, q_SL, q_SR, q_II, q_IL, q_IR, q_LI, q_LL, q_LR, q_RI, q_RL, q_RR, List.contains_cons, List.contains_nil, Nat.reduceBEq, Nat.reduceEqDiff, beq_self_eq_true, Bool.or_false, Bool.false_or, Bool.true_or, Bool.or_true, Bool.and_true, Bool.true_and, Bool.false_and, Bool.and_false, if_true, if_false, Bool.false_eq_true, true_and, and_true, false_and, and_false, and_self, not_true, not_false_iff, reduceCtorEq, forall_const, false_imp_iff, true_imp_iff, true_or, or_true, false_or, or_false, nI_leI (show n < 2 ^ 31 by omega) (show i < 2 ^ 31 by omega), q_SfI, e, hc, fillI_s, nI_1]
    refine ⟨fun z => absurd z (by omega), fun _ => ⟨?_, ?_⟩⟩
    · have := nI_pos (show i < 2 ^ 31 by omega)
      simp [this]
      omega
    · refine ih _ _ ⟨i + 1, by omega, rfl, rfl⟩ ?_
      rw [hc, nI_clamp (by omega)]
      omega
def far_ (a b : Int32) : Int32 := (if 0 ≤ a / 10 - b / 10 then a / 10 - b / 10 else 0 - (a / 10 - b / 10)) + (if 0 ≤ (a - a / 10 * 10) - (b - b / 10 * 10) then (a - a / 10 * 10) - (b - b / 10 * 10) else 0 - ((a - a / 10 * 10) - (b - b / 10 * 10)))
theorem t_X12_sizeOf (h : AH) (v : Int32) : wp (f_X12_sizeOf v h) (fun r h' => r = (if 0 ≤ v then v else 0 - v) ∧ h' = h) := by
  unfold f_X12_sizeOf
  simp only [wp_some, wp_none, wp_ite, wp_cl, wp_rz, wp_nz, wp_nzL, wp_fI, wp_fL, wp_fR, wp_pI, wp_pL, wp_pR, wp_pZ, wp_aI, wp_aL, wp_aR, wp_bI, wp_bL, wp_bR, wp_rO, wp_cO, wp_nO, wp_iO, wp_tbI, wp_tbL, wp_jn, q_okT, q_okA, q_gI, q_gL, q_gR, q_sI, q_sL, q_sR, q_SI, q_SL, q_SR, q_II, q_IL, q_IR, q_LI, q_LL, q_LR, q_RI, q_RL, q_RR, List.contains_cons, List.contains_nil, Nat.reduceBEq, Nat.reduceEqDiff, beq_self_eq_true, Bool.or_false, Bool.false_or, Bool.true_or, Bool.or_true, Bool.and_true, Bool.true_and, Bool.false_and, Bool.and_false, if_true, if_false, Bool.false_eq_true, true_and, and_true, false_and, and_false, and_self, not_true, not_false_iff, reduceCtorEq, forall_const, false_imp_iff, true_imp_iff, true_or, or_true, false_or, or_false]
  grind
theorem t_X12_farOf (h : AH) (a b : Int32) : wp (f_X12_farOf a b h) (fun r h' => r = far_ a b ∧ h' = h) := by
  unfold f_X12_farOf far_
  simp only [wp_some, wp_none, wp_ite, wp_cl, wp_rz, wp_nz, wp_nzL, wp_fI, wp_fL, wp_fR, wp_pI, wp_pL, wp_pR, wp_pZ, wp_aI, wp_aL, wp_aR, wp_bI, wp_bL, wp_bR, wp_rO, wp_cO, wp_nO, wp_iO, wp_tbI, wp_tbL, wp_jn, q_okT, q_okA, q_gI, q_gL, q_gR, q_sI, q_sL, q_sR, q_SI, q_SL, q_SR, q_II, q_IL, q_IR, q_LI, q_LL, q_LR, q_RI, q_RL, q_RR, List.contains_cons, List.contains_nil, Nat.reduceBEq, Nat.reduceEqDiff, beq_self_eq_true, Bool.or_false, Bool.false_or, Bool.true_or, Bool.or_true, Bool.and_true, Bool.true_and, Bool.false_and, Bool.and_false, if_true, if_false, Bool.false_eq_true, true_and, and_true, false_and, and_false, and_self, not_true, not_false_iff, reduceCtorEq, forall_const, false_imp_iff, true_imp_iff, true_or, or_true, false_or, or_false, wp_use (t_X12_sizeOf _ _), ne_eq]
  grind
theorem t_X11_far (h : AH) (a b : Int32) : wp (f_X11_far a b h) (fun r h' => r = far_ a b ∧ h' = h) := by
  unfold f_X11_far far_
  simp only [wp_some, wp_none, wp_ite, wp_cl, wp_rz, wp_nz, wp_nzL, wp_fI, wp_fL, wp_fR, wp_pI, wp_pL, wp_pR, wp_pZ, wp_aI, wp_aL, wp_aR, wp_bI, wp_bL, wp_bR, wp_rO, wp_cO, wp_nO, wp_iO, wp_tbI, wp_tbL, wp_jn, q_okT, q_okA, q_gI, q_gL, q_gR, q_sI, q_sL, q_sR, q_SI, q_SL, q_SR, q_II, q_IL, q_IR, q_LI, q_LL, q_LR, q_RI, q_RL, q_RR, List.contains_cons, List.contains_nil, Nat.reduceBEq, Nat.reduceEqDiff, beq_self_eq_true, Bool.or_false, Bool.false_or, Bool.true_or, Bool.or_true, Bool.and_true, Bool.true_and, Bool.false_and, Bool.and_false, if_true, if_false, Bool.false_eq_true, true_and, and_true, false_and, and_false, and_self, not_true, not_false_iff, reduceCtorEq, forall_const, false_imp_iff, true_imp_iff, true_or, or_true, false_or, or_false, ne_eq]
  grind
/-! owner: c < 60 -/
def w_owner (w : AH) (c o : Int32) : Int32 × AH := if c < 0 ∨ 59 < c ∨ o < -1 ∨ 9 < o then (-2000000000, w) else (hI w 50 c.toNatClampNeg - 1, wI w 50 c.toNatClampNeg (o + 1))
theorem cl_lt {c : Int32} {n : Nat} (h0 : ¬ c < 0) (hn : n < 2 ^ 31) (h1 : ¬ nI n < c) : c.toNatClampNeg ≤ n := by
  have h2 := nn32 c h0
  have h3 := Int32.not_lt.mp h1
  have h4 := Int32.le_iff_toInt_le.mp h3
  rw [nI_toInt hn, h2] at h4
  omega
theorem cl_in {c : Int32} {n : Nat} (h0 : 0 ≤ c) (hn : n < 2 ^ 31) (h1 : c < nI n) : c.toNatClampNeg < n := by
  have h2 := nn32 c (Int32.not_lt.mpr h0)
  have h4 := Int32.lt_iff_toInt_lt.mp h1
  rw [nI_toInt hn, h2] at h4
  omega
theorem t_X11_isCell (h : AH) (c : Int32) : wp (f_X11_isCell c h) (fun r h' => r = (if 0 ≤ c ∧ c < 60 then 1 else 0) ∧ h' = h) := by
  unfold f_X11_isCell
  simp only [wp_some, wp_none, wp_ite, wp_cl, wp_rz, wp_nz, wp_nzL, wp_fI, wp_fL, wp_fR, wp_pI, wp_pL, wp_pR, wp_pZ, wp_aI, wp_aL, wp_aR, wp_bI, wp_bL, wp_bR, wp_rO, wp_cO, wp_nO, wp_iO, wp_tbI, wp_tbL, wp_jn, q_okT, q_okA, q_gI, q_gL, q_gR, q_sI, q_sL, q_sR, q_SI, q_SL, q_SR, q_II, q_IL, q_IR, q_LI, q_LL, q_LR, q_RI, q_RL, q_RR, List.contains_cons, List.contains_nil, Nat.reduceBEq, Nat.reduceEqDiff, beq_self_eq_true, Bool.or_false, Bool.false_or, Bool.true_or, Bool.or_true, Bool.and_true, Bool.true_and, Bool.false_and, Bool.and_false, if_true, if_false, Bool.false_eq_true, true_and, and_true, false_and, and_false, and_self, not_true, not_false_iff, reduceCtorEq, forall_const, false_imp_iff, true_imp_iff, true_or, or_true, false_or, or_false]
  grind
theorem t_X12_isCell (h : AH) (c : Int32) : wp (f_X12_isCell c h) (fun r h' => r = (if 0 ≤ c ∧ c < 60 then 1 else 0) ∧ h' = h) := by
  unfold f_X12_isCell
  simp only [wp_some, wp_none, wp_ite, wp_cl, wp_rz, wp_nz, wp_nzL, wp_fI, wp_fL, wp_fR, wp_pI, wp_pL, wp_pR, wp_pZ, wp_aI, wp_aL, wp_aR, wp_bI, wp_bL, wp_bR, wp_rO, wp_cO, wp_nO, wp_iO, wp_tbI, wp_tbL, wp_jn, q_okT, q_okA, q_gI, q_gL, q_gR, q_sI, q_sL, q_sR, q_SI, q_SL, q_SR, q_II, q_IL, q_IR, q_LI, q_LL, q_LR, q_RI, q_RL, q_RR, List.contains_cons, List.contains_nil, Nat.reduceBEq, Nat.reduceEqDiff, beq_self_eq_true, Bool.or_false, Bool.false_or, Bool.true_or, Bool.or_true, Bool.and_true, Bool.true_and, Bool.false_and, Bool.and_false, if_true, if_false, Bool.false_eq_true, true_and, and_true, false_and, and_false, and_self, not_true, not_false_iff, reduceCtorEq, forall_const, false_imp_iff, true_imp_iff, true_or, or_true, false_or, or_false, wp_use (t_X12_in _ _ _ _)]
  grind
theorem t_X11_owner (h w : AH) (l : Lay h) (e : ∀ c, c < 60 → hI h 2 c = hI w 50 c - 1) (c o : Int32) : wp (f_X11_owner (some 0) c o h) (fun v h' => v = (w_owner w c o).1 ∧ Lay h' ∧ ∀ c1, c1 < 60 → hI h' 2 c1 = hI (w_owner w c o).2 50 c1 - 1) := by
  unfold f_X11_owner w_owner
  simp only [wp_some, wp_none, wp_ite, wp_cl, wp_rz, wp_nz, wp_nzL, wp_fI, wp_fL, wp_fR, wp_pI, wp_pL, wp_pR, wp_pZ, wp_aI, wp_aL, wp_aR, wp_bI, wp_bL, wp_bR, wp_rO, wp_cO, wp_nO, wp_iO, wp_tbI, wp_tbL, wp_jn, q_okT, q_okA, q_gI, q_gL, q_gR, q_sI, q_sL, q_sR, q_SI, q_SL, q_SR, q_II, q_IL, q_IR, q_LI, q_LL, q_LR, q_RI, q_RL, q_RR, List.contains_cons, List.contains_nil, Nat.reduceBEq, Nat.reduceEqDiff, beq_self_eq_true, Bool.or_false, Bool.false_or, Bool.true_or, Bool.or_true, Bool.and_true, Bool.true_and, Bool.false_and, Bool.and_false, if_true, if_false, Bool.false_eq_true, true_and, and_true, false_and, and_false, and_self, not_true, not_false_iff, reduceCtorEq, forall_const, false_imp_iff, true_imp_iff, true_or, or_true, false_or, or_false, wp_use (t_X11_isCell _ _), l.S 0 (by decide), l.S 1 (by decide), l.S 2 (by decide), tS, l.r0_0, l.r1_1]
  have hk : 0 ≤ c → c < 60 → c.toNatClampNeg < 60 := fun z y => cl_in (n := 60) z (by decide) y
  grind [Lay.wI, q_II]
theorem t_X12_owner (h : AH) (l : Lay h) (c o : Int32) : wp (f_X12_owner (some 49) c o h) (fun v h' => v = (w_owner h c o).1 ∧ h' = (w_owner h c o).2) := by
  unfold f_X12_owner w_owner
  simp only [wp_some, wp_none, wp_ite, wp_cl, wp_rz, wp_nz, wp_nzL, wp_fI, wp_fL, wp_fR, wp_pI, wp_pL, wp_pR, wp_pZ, wp_aI, wp_aL, wp_aR, wp_bI, wp_bL, wp_bR, wp_rO, wp_cO, wp_nO, wp_iO, wp_tbI, wp_tbL, wp_jn, q_okT, q_okA, q_gI, q_gL, q_gR, q_sI, q_sL, q_sR, q_SI, q_SL, q_SR, q_II, q_IL, q_IR, q_LI, q_LL, q_LR, q_RI, q_RL, q_RR, List.contains_cons, List.contains_nil, Nat.reduceBEq, Nat.reduceEqDiff, beq_self_eq_true, Bool.or_false, Bool.false_or, Bool.true_or, Bool.or_true, Bool.and_true, Bool.true_and, Bool.false_and, Bool.and_false, if_true, if_false, Bool.false_eq_true, true_and, and_true, false_and, and_false, and_self, not_true, not_false_iff, reduceCtorEq, forall_const, false_imp_iff, true_imp_iff, true_or, or_true, false_or, or_false, wp_use (t_X12_isCell _ _), wp_use (t_X12_in _ _ _ _), f_X12_ownerOf, l.S 49 (by decide), l.S 50 (by decide), tS, l.r49_2]
  have hk : 0 ≤ c → c < 60 → c.toNatClampNeg < 60 := fun z y => cl_in (n := 60) z (by decide) y
  grind [Lay.wI, q_II]
/-! step -/
def w_step (w : AH) (c : Int32) : Int32 × AH := if c < 0 ∨ 59 < c then (-1, w) else if hI w 49 11 = 4 then (-3, w) else (hI w 49 11 + 1, wI (wI w 58 (hI w 49 11).toNatClampNeg c) 49 11 (hI w 49 11 + 1))
theorem t_X11_step (h w : AH) (l : Lay h) (e1 : hI h 1 5 = hI w 49 11) (e2 : ∀ i, i < 4 → hI h 4 i = hI w 58 i) (e3 : 0 ≤ hI w 49 11 ∧ hI w 49 11 ≤ 4) (c : Int32) : wp (f_X11_step (some 0) c h) (fun v h' => v = (w_step w c).1 ∧ Lay h' ∧ hI h' 1 5 = hI (w_step w c).2 49 11 ∧ ∀ i, i < 4 → hI h' 4 i = hI (w_step w c).2 58 i) := by
  unfold f_X11_step w_step
  simp only [wp_some, wp_none, wp_ite, wp_cl, wp_rz, wp_nz, wp_nzL, wp_fI, wp_fL, wp_fR, wp_pI, wp_pL, wp_pR, wp_pZ, wp_aI, wp_aL, wp_aR, wp_bI, wp_bL, wp_bR, wp_rO, wp_cO, wp_nO, wp_iO, wp_tbI, wp_tbL, wp_jn, q_okT, q_okA, q_gI, q_gL, q_gR, q_sI, q_sL, q_sR, q_SI, q_SL, q_SR, q_II, q_IL, q_IR, q_LI, q_LL, q_LR, q_RI, q_RL, q_RR, List.contains_cons, List.contains_nil, Nat.reduceBEq, Nat.reduceEqDiff, beq_self_eq_true, Bool.or_false, Bool.false_or, Bool.true_or, Bool.or_true, Bool.and_true, Bool.true_and, Bool.false_and, Bool.and_false, if_true, if_false, Bool.false_eq_true, true_and, and_true, false_and, and_false, and_self, not_true, not_false_iff, reduceCtorEq, forall_const, false_imp_iff, true_imp_iff, true_or, or_true, false_or, or_false, wp_use (t_X11_isCell _ _), l.S 0 (by decide), l.S 1 (by decide), l.S 4 (by decide), tS, l.r0_0, l.r1_4, e1]
  have hk : hI w 49 11 < 4 → (hI w 49 11).toNatClampNeg < 4 := fun z => cl_in (n := 4) e3.1 (by decide) z
  (with_reducible (repeat' (first | apply And.intro | intro _))) <;> grind [Lay.wI, q_II]
theorem t_X12_step (h : AH) (l : Lay h) (e3 : 0 ≤ hI h 49 11 ∧ hI h 49 11 ≤ 4) (c : Int32) : wp (f_X12_step (some 49) c h) (fun v h' => v = (w_step h c).1 ∧ h' = (w_step h c).2) := by
  unfold f_X12_step w_step
  simp only [wp_some, wp_none, wp_ite, wp_cl, wp_rz, wp_nz, wp_nzL, wp_fI, wp_fL, wp_fR, wp_pI, wp_pL, wp_pR, wp_pZ, wp_aI, wp_aL, wp_aR, wp_bI, wp_bL, wp_bR, wp_rO, wp_cO, wp_nO, wp_iO, wp_tbI, wp_tbL, wp_jn, q_okT, q_okA, q_gI, q_gL, q_gR, q_sI, q_sL, q_sR, q_SI, q_SL, q_SR, q_II, q_IL, q_IR, q_LI, q_LL, q_LR, q_RI, q_RL, q_RR, List.contains_cons, List.contains_nil, Nat.reduceBEq, Nat.reduceEqDiff, beq_self_eq_true, Bool.or_false, Bool.false_or, Bool.true_or, Bool.or_true, Bool.and_true, Bool.true_and, Bool.false_and, Bool.and_false, if_true, if_false, Bool.false_eq_true, true_and, and_true, false_and, and_false, and_self, not_true, not_false_iff, reduceCtorEq, forall_const, false_imp_iff, true_imp_iff, true_or, or_true, false_or, or_false, wp_use (t_X12_isCell _ _), l.S 49 (by decide), l.S 58 (by decide), tS, l.r49_12]
  have hk : hI h 49 11 < 4 → (hI h 49 11).toNatClampNeg < 4 := fun z => cl_in (n := 4) e3.1 (by decide) z
  grind [Lay.wI, q_II]
/-! THE WORLD: the reference's own arrays (cells 49 ..) of a heap w, read by names -/
def wToday (w : AH) : Int32 := hI w 49 1
def wN (w : AH) : Int32 := hI w 49 3
def wKind (w : AH) (b : Nat) : Int32 := hI w 51 b
def wFirst (w : AH) (b : Nat) : Int32 := hI w 52 b
def wBegan (w : AH) (b : Nat) : Int32 := hI w 53 b
def wEnded (w : AH) (b : Nat) : Int32 := hI w 54 b
def wKeeper (w : AH) (b : Nat) : Int32 := hI w 55 b
/-- the number of i < n with p -/
def cnt (p : Nat → Bool) : Nat → Nat
  | 0 => 0
  | n + 1 => cnt p n + (if p n = true then 1 else 0)
/-- the last i < n with p, and what f makes of it; else d -/
def lastOf {α : Type} (p : Nat → Bool) (f : Nat → α) (d : α) : Nat → α
  | 0 => d
  | n + 1 => if p n = true then f n else lastOf p f d n
/-- where a box lies now: its last move, else its first cell -/
def wCellNow (w : AH) (b : Nat) : Int32 := lastOf (fun m => decide (hI w 59 m = nI b)) (fun m => hI w 60 m) (wFirst w b) (hI w 49 13).toNatClampNeg
def wFinds (w : AH) (b : Nat) : Int32 := nI (cnt (fun l => decide (hI w 63 l = nI b ∧ hI w 65 l = 1)) (hI w 49 17).toNatClampNeg)
/-- a log lies behind another -/
def wBehind (w : AH) (a b : Nat) : Bool := if hI w 64 a ≠ hI w 64 b then decide (hI w 64 b < hI w 64 a) else decide (b < a)
def wLatest (w : AH) (b : Nat) : Nat → Int32
  | 0 => -1
  | n + 1 => if hI w 63 n = nI b ∧ hI w 65 n = 1 ∧ (wLatest w b n < 0 ∨ wBehind w n (wLatest w b n).toNatClampNeg = true) then nI n else wLatest w b n
def wLast (w : AH) (b : Nat) : Int32 := wLatest w b (hI w 49 17).toNatClampNeg
def wMisses (w : AH) (b : Nat) : Int32 := nI (cnt (fun l => decide (hI w 63 l = nI b ∧ hI w 65 l = 0 ∧ (wLast w b < 0 ∨ wBehind w l (wLast w b).toNatClampNeg = true))) (hI w 49 17).toNatClampNeg)
/-- how many cells a body of a kind takes: its own, its rows', its riddle's -/
def blk (k : Int32) : Nat := if k = 0 ∨ k = 7 then 1 else if k = 6 then 3 else if k = 2 ∨ k = 5 then 11 else 4
/-- a body b at cell a is as the world says -/
def RBplain (h w : AH) (b a : Nat) : Prop := wKind w b = 0 → (hS h)[a]? = some (0, 2)
def RBthing (h w : AH) (b a : Nat) : Prop := wKind w b = 6 → (hS h)[a]? = some (9, 5) ∧ (hS h)[a + 1]? = some (20, 12) ∧ (hS h)[a + 2]? = some (23, 12) ∧ hR h a 2 = some (a + 1) ∧ hR h a 3 = some (a + 2) ∧ hI h a 4 = hI w 86 b ∧ ∀ k : Nat, k < 12 → nI k < hI w 86 b → hI h (a + 1) k = hI w 87 (12 * b + k) ∧ hI h (a + 2) k = hI w 88 (12 * b + k)
def RBfinder (h w : AH) (b a : Nat) : Prop := wKind w b = 7 → (hS h)[a]? = some (2, 5) ∧ hI h a 2 = wFirst w b ∧ hI h a 3 = wBegan w b ∧ hI h a 4 = wEnded w b
def RBbox (h w : AH) (b a : Nat) : Prop := (1 ≤ wKind w b ∧ wKind w b ≤ 5) → (hS h)[a]? = some (1, 19) ∧ (hS h)[a + 1]? = some (20, 4) ∧ (hS h)[a + 2]? = some (20, 40) ∧ (hS h)[a + 3]? = some (20, 8) ∧ hR h a 4 = some (a + 1) ∧ hR h a 5 = some (a + 2) ∧ hR h a 6 = some (a + 3) ∧ hR h a 7 = (if wKind w b = 2 ∨ wKind w b = 5 then some (a + 4) else none)
  ∧ hI h a 2 = wBegan w b ∧ hI h a 3 = wFirst w b ∧ hI h a 8 = wKeeper w b ∧ hI h a 9 = wCellNow w b ∧ hI h a 10 = hI w 56 b ∧ hI h a 11 = wEnded w b ∧ hI h a 12 = wFinds w b ∧ hI h a 13 = wMisses w b ∧ hI h a 14 = wLast w b ∧ hI h a 15 = (if hI w 66 b < 0 then 0 else hI w 66 b) ∧ hI h a 16 = (if hI w 66 b < 0 then 0 else 1) ∧ hI h a 17 = hI w 89 b ∧ hI h a 18 = hI w 98 b - 1
  ∧ (∀ i : Nat, i < 4 → nI i < hI w 56 b → hI h (a + 1) i = hI w 57 (4 * b + i)) ∧ (∀ i : Nat, i < 40 → nI i < hI w 66 b → hI h (a + 2) i = hI w 67 (40 * b + i)) ∧ ∀ i : Nat, i < 8 → nI i < hI w 89 b → hI h (a + 3) i = hI w 90 (8 * b + i)
def RB1 (h w : AH) (b a : Nat) : Prop := hI h a 0 = nI b ∧ hI h a 1 = wKind w b ∧ RBplain h w b a ∧ RBthing h w b a ∧ RBfinder h w b a ∧ RBbox h w b a
/-- the bodies: in blocks one behind the other from cell 107 on -/
def RB (h w : AH) (n : Nat) (ad : Nat → Nat) : Prop := n ≤ 150 ∧ wN w = nI n ∧ hI h 1 3 = nI n ∧ ad 0 = 107 ∧ ad n = (hS h).length ∧ ∀ b : Nat, b < n → ad (b + 1) = ad b + blk (wKind w b) ∧ hR h 3 b = some (ad b) ∧ (0 ≤ wKind w b ∧ wKind w b ≤ 7) ∧ RB1 h w b (ad b)
def under_ (k a : Int32) : Bool := decide (a = 0 ∨ k = a ∨ (a = 1 ∧ 2 ≤ k ∧ k ≤ 5) ∨ (a = 2 ∧ k = 5))
theorem t_X12_isUnder (h : AH) (k a : Int32) : wp (f_X12_isUnder k a h) (fun r h' => r = (if under_ k a = true then 1 else 0) ∧ h' = h) := by
  unfold f_X12_isUnder under_
  simp only [wp_some, wp_none, wp_ite, wp_cl, wp_rz, wp_nz, wp_nzL, wp_fI, wp_fL, wp_fR, wp_pI, wp_pL, wp_pR, wp_pZ, wp_aI, wp_aL, wp_aR, wp_bI, wp_bL, wp_bR, wp_rO, wp_cO, wp_nO, wp_iO, wp_tbI, wp_tbL, wp_jn, q_okT, q_okA, q_gI, q_gL, q_gR, q_sI, q_sL, q_sR, q_SI, q_SL, q_SR, q_II, q_IL, q_IR, q_LI, q_LL, q_LR, q_RI, q_RL, q_RR, List.contains_cons, List.contains_nil, Nat.reduceBEq, Nat.reduceEqDiff, beq_self_eq_true, Bool.or_false, Bool.false_or, Bool.true_or, Bool.or_true, Bool.and_true, Bool.true_and, Bool.false_and, Bool.and_false, if_true, if_false, Bool.false_eq_true, true_and, and_true, false_and, and_false, and_self, not_true, not_false_iff, reduceCtorEq, forall_const, false_imp_iff, true_imp_iff, true_or, or_true, false_or, or_false, wp_use (t_X12_in _ _ _ _), decide_eq_true_eq]
  with_reducible (repeat' (first | apply And.intro | intro _)) <;> grind
/-- what a body is, by the world -/
def isBody_ (w : AH) (b : Int32) : Bool := decide (0 ≤ b ∧ b < wN w)
def isBox_ (w : AH) (b : Int32) : Bool := isBody_ w b && under_ (wKind w b.toNatClampNeg) 1
def isFinder_ (w : AH) (b : Int32) : Bool := isBody_ w b && decide (wKind w b.toNatClampNeg = 7)
theorem t_X12_isBody (h : AH) (l : Lay h) (hn : 0 ≤ wN h ∧ wN h ≤ 150) (b : Int32) : wp (f_X12_isBody (some 49) b h) (fun r h' => r = (if isBody_ h b = true then 1 else 0) ∧ h' = h) := by
  unfold wN at hn
  unfold f_X12_isBody isBody_ wN
  simp only [wp_some, wp_none, wp_ite, wp_cl, wp_rz, wp_nz, wp_nzL, wp_fI, wp_fL, wp_fR, wp_pI, wp_pL, wp_pR, wp_pZ, wp_aI, wp_aL, wp_aR, wp_bI, wp_bL, wp_bR, wp_rO, wp_cO, wp_nO, wp_iO, wp_tbI, wp_tbL, wp_jn, q_okT, q_okA, q_gI, q_gL, q_gR, q_sI, q_sL, q_sR, q_SI, q_SL, q_SR, q_II, q_IL, q_IR, q_LI, q_LL, q_LR, q_RI, q_RL, q_RR, List.contains_cons, List.contains_nil, Nat.reduceBEq, Nat.reduceEqDiff, beq_self_eq_true, Bool.or_false, Bool.false_or, Bool.true_or, Bool.or_true, Bool.and_true, Bool.true_and, Bool.false_and, Bool.and_false, if_true, if_false, Bool.false_eq_true, true_and, and_true, false_and, and_false, and_self, not_true, not_false_iff, reduceCtorEq, forall_const, false_imp_iff, true_imp_iff, true_or, or_true, false_or, or_false, wp_use (t_X12_in _ _ _ _), l.S 49 (by decide), tS, decide_eq_true_eq]
  grind
theorem t_X12_isBox (h : AH) (l : Lay h) (hn : 0 ≤ wN h ∧ wN h ≤ 150) (b : Int32) : wp (f_X12_isBox (some 49) b h) (fun r h' => r = (if isBox_ h b = true then 1 else 0) ∧ h' = h) := by
  unfold f_X12_isBox isBox_
  simp only [wp_some, wp_none, wp_ite, wp_cl, wp_rz, wp_nz, wp_nzL, wp_fI, wp_fL, wp_fR, wp_pI, wp_pL, wp_pR, wp_pZ, wp_aI, wp_aL, wp_aR, wp_bI, wp_bL, wp_bR, wp_rO, wp_cO, wp_nO, wp_iO, wp_tbI, wp_tbL, wp_jn, q_okT, q_okA, q_gI, q_gL, q_gR, q_sI, q_sL, q_sR, q_SI, q_SL, q_SR, q_II, q_IL, q_IR, q_LI, q_LL, q_LR, q_RI, q_RL, q_RR, List.contains_cons, List.contains_nil, Nat.reduceBEq, Nat.reduceEqDiff, beq_self_eq_true, Bool.or_false, Bool.false_or, Bool.true_or, Bool.or_true, Bool.and_true, Bool.true_and, Bool.false_and, Bool.and_false, if_true, if_false, Bool.false_eq_true, true_and, and_true, false_and, and_false, and_self, not_true, not_false_iff, reduceCtorEq, forall_const, false_imp_iff, true_imp_iff, true_or, or_true, false_or, or_false, wp_use (t_X12_isUnder _ _ _), wp_use (t_X12_isBody h l hn b), l.S 49 (by decide), l.S 51 (by decide), tS, l.r49_4]
  have hk : isBody_ h b = true → ¬ b < 0 ∧ b.toNatClampNeg < 150 := fun z => by
    unfold isBody_ at z
    have z := of_decide_eq_true z
    exact ⟨by grind, cl_in (n := 150) z.1 (by decide) (by show b < 150; grind)⟩
  unfold wKind
  with_reducible (repeat' (first | apply And.intro | intro _)) <;> grind
/-- of a body there is: its cell's sort -/
def sortOf_ (k : Int32) : Nat × Nat := if k = 0 then (0, 2) else if k = 6 then (9, 5) else if k = 7 then (2, 5) else (1, 19)
theorem RB.sort {h w : AH} {n : Nat} {ad : Nat → Nat} (B : RB h w n ad) {b : Nat} (hb : b < n) : (hS h)[ad b]? = some (sortOf_ (wKind w b)) := by
  obtain ⟨-, -, -, -, -, hB⟩ := B
  obtain ⟨-, -, hk, -, -, h0, h6, h7, h1⟩ := hB b hb
  unfold sortOf_
  by_cases e0 : wKind w b = 0
  · rw [if_pos e0]; exact h0 e0
  rw [if_neg e0]
  by_cases e6 : wKind w b = 6
  · rw [if_pos e6]; exact (h6 e6).1
  rw [if_neg e6]
  by_cases e7 : wKind w b = 7
  · rw [if_pos e7]; exact (h7 e7).1
  rw [if_neg e7]
  exact (h1 (by grind)).1
theorem t_X3_boxAt {h w : AH} {n : Nat} {ad : Nat → Nat} (l : Lay h) (B : RB h w n ad) (b : Int32) : wp (f_X3_boxAt (some 1) b h) (fun r h' => r = (if isBox_ w b = true then some (ad b.toNatClampNeg) else none) ∧ h' = h) := by
  have hB := B
  obtain ⟨hn, e1, e2, -, -, hb⟩ := B
  have hs : (hS h)[3]? = some (25, 150) := l.S 3 (by decide)
  unfold f_X3_boxAt
  simp only [wp_some, wp_none, wp_ite, wp_cl, wp_rz, wp_nz, wp_nzL, wp_fI, wp_fL, wp_fR, wp_pI, wp_pL, wp_pR, wp_pZ, wp_aI, wp_aL, wp_aR, wp_bI, wp_bL, wp_bR, wp_rO, wp_cO, wp_nO, wp_iO, wp_tbI, wp_tbL, wp_jn, q_okT, q_okA, q_gI, q_gL, q_gR, q_sI, q_sL, q_sR, q_SI, q_SL, q_SR, q_II, q_IL, q_IR, q_LI, q_LL, q_LR, q_RI, q_RL, q_RR, List.contains_cons, List.contains_nil, Nat.reduceBEq, Nat.reduceEqDiff, beq_self_eq_true, Bool.or_false, Bool.false_or, Bool.true_or, Bool.or_true, Bool.and_true, Bool.true_and, Bool.false_and, Bool.and_false, if_true, if_false, Bool.false_eq_true, true_and, and_true, false_and, and_false, and_self, not_true, not_false_iff, reduceCtorEq, forall_const, false_imp_iff, true_imp_iff, true_or, or_true, false_or, or_false, l.S 1 (by decide), l.S 3 (by decide), tS, l.r1_2, e2]
  have hin : ¬ b < 0 → b < nI n → b.toNatClampNeg < n ∧ hR h 3 b.toNatClampNeg = some (ad b.toNatClampNeg) ∧ (0 ≤ wKind w b.toNatClampNeg ∧ wKind w b.toNatClampNeg ≤ 7) ∧ (hS h)[ad b.toNatClampNeg]? = some (sortOf_ (wKind w b.toNatClampNeg)) := fun z y => by
    have := cl_in (c := b) (n := n) (Int32.not_lt.mp z) (by omega) y
    obtain ⟨-, q1, q2, -⟩ := hb _ this
    exact ⟨this, q1, q2, hB.sort this⟩
  unfold isBox_ isBody_ under_
  rw [e1]
  by_cases z : b < 0
  · simp [z]; grind
  by_cases y : b < nI n
  · obtain ⟨i1, i2, i3, i4⟩ := hin z y
    have zb : (0 : Int32) ≤ b := Int32.not_lt.mp z
    have hx : ¬ (150 : Nat) ≤ b.toNatClampNeg := by omega
    generalize wKind w b.toNatClampNeg = k at i3 i4
    by_cases k0 : k = 0
    · subst k0
      simp [z, y, zb, i2, i4, q_okT, sortOf_, hx, q_gR]
    by_cases k6 : k = 6
    · subst k6
      simp [z, y, zb, i2, i4, q_okT, sortOf_, hx, q_gR]
    by_cases k7 : k = 7
    · subst k7
      simp [z, y, zb, i2, i4, q_okT, sortOf_, hx, q_gR]
    have k1 : k = 1 ∨ 2 ≤ k ∧ k ≤ 5 := by grind
    simp [z, y, zb, i2, i4, q_okT, sortOf_, hx, q_gR, k0, k6, k7, k1]
  · simp [z, y]
def isThing_ (w : AH) (b : Int32) : Bool := isBody_ w b && decide (wKind w b.toNatClampNeg = 6)
theorem t_X3_finderAt {h w : AH} {n : Nat} {ad : Nat → Nat} (l : Lay h) (B : RB h w n ad) (b : Int32) : wp (f_X3_finderAt (some 1) b h) (fun r h' => r = (if isFinder_ w b = true then some (ad b.toNatClampNeg) else none) ∧ h' = h) := by
  have hB := B
  obtain ⟨hn, e1, e2, -, -, hb⟩ := B
  have hs : (hS h)[3]? = some (25, 150) := l.S 3 (by decide)
  unfold f_X3_finderAt
  simp only [wp_some, wp_none, wp_ite, wp_cl, wp_rz, wp_nz, wp_nzL, wp_fI, wp_fL, wp_fR, wp_pI, wp_pL, wp_pR, wp_pZ, wp_aI, wp_aL, wp_aR, wp_bI, wp_bL, wp_bR, wp_rO, wp_cO, wp_nO, wp_iO, wp_tbI, wp_tbL, wp_jn, q_okT, q_okA, q_gI, q_gL, q_gR, q_sI, q_sL, q_sR, q_SI, q_SL, q_SR, q_II, q_IL, q_IR, q_LI, q_LL, q_LR, q_RI, q_RL, q_RR, List.contains_cons, List.contains_nil, Nat.reduceBEq, Nat.reduceEqDiff, beq_self_eq_true, Bool.or_false, Bool.false_or, Bool.true_or, Bool.or_true, Bool.and_true, Bool.true_and, Bool.false_and, Bool.and_false, if_true, if_false, Bool.false_eq_true, true_and, and_true, false_and, and_false, and_self, not_true, not_false_iff, reduceCtorEq, forall_const, false_imp_iff, true_imp_iff, true_or, or_true, false_or, or_false, l.S 1 (by decide), l.S 3 (by decide), tS, l.r1_2, e2]
  have hin : ¬ b < 0 → b < nI n → b.toNatClampNeg < n ∧ hR h 3 b.toNatClampNeg = some (ad b.toNatClampNeg) ∧ (0 ≤ wKind w b.toNatClampNeg ∧ wKind w b.toNatClampNeg ≤ 7) ∧ (hS h)[ad b.toNatClampNeg]? = some (sortOf_ (wKind w b.toNatClampNeg)) := fun z y => by
    have := cl_in (c := b) (n := n) (Int32.not_lt.mp z) (by omega) y
    obtain ⟨-, q1, q2, -⟩ := hb _ this
    exact ⟨this, q1, q2, hB.sort this⟩
  unfold isFinder_ isBody_
  rw [e1]
  by_cases z : b < 0
  · simp [z]; grind
  by_cases y : b < nI n
  · obtain ⟨i1, i2, i3, i4⟩ := hin z y
    have zb : (0 : Int32) ≤ b := Int32.not_lt.mp z
    have hx : ¬ (150 : Nat) ≤ b.toNatClampNeg := by omega
    generalize wKind w b.toNatClampNeg = k at i3 i4
    by_cases k0 : k = 0
    · subst k0
      simp [z, y, zb, i2, i4, q_okT, sortOf_, hx, q_gR]
    by_cases k6 : k = 6
    · subst k6
      simp [z, y, zb, i2, i4, q_okT, sortOf_, hx, q_gR]
    by_cases k7 : k = 7
    · subst k7
      simp [z, y, zb, i2, i4, q_okT, sortOf_, hx, q_gR]
    have k1 : k = 1 ∨ 2 ≤ k ∧ k ≤ 5 := by grind
    simp [z, y, zb, i2, i4, q_okT, sortOf_, hx, q_gR, k0, k6, k7, k1]
  · simp [z, y]
theorem t_X3_thingAt {h w : AH} {n : Nat} {ad : Nat → Nat} (l : Lay h) (B : RB h w n ad) (b : Int32) : wp (f_X3_thingAt (some 1) b h) (fun r h' => r = (if isThing_ w b = true then some (ad b.toNatClampNeg) else none) ∧ h' = h) := by
  have hB := B
  obtain ⟨hn, e1, e2, -, -, hb⟩ := B
  have hs : (hS h)[3]? = some (25, 150) := l.S 3 (by decide)
  unfold f_X3_thingAt
  simp only [wp_some, wp_none, wp_ite, wp_cl, wp_rz, wp_nz, wp_nzL, wp_fI, wp_fL, wp_fR, wp_pI, wp_pL, wp_pR, wp_pZ, wp_aI, wp_aL, wp_aR, wp_bI, wp_bL, wp_bR, wp_rO, wp_cO, wp_nO, wp_iO, wp_tbI, wp_tbL, wp_jn, q_okT, q_okA, q_gI, q_gL, q_gR, q_sI, q_sL, q_sR, q_SI, q_SL, q_SR, q_II, q_IL, q_IR, q_LI, q_LL, q_LR, q_RI, q_RL, q_RR, List.contains_cons, List.contains_nil, Nat.reduceBEq, Nat.reduceEqDiff, beq_self_eq_true, Bool.or_false, Bool.false_or, Bool.true_or, Bool.or_true, Bool.and_true, Bool.true_and, Bool.false_and, Bool.and_false, if_true, if_false, Bool.false_eq_true, true_and, and_true, false_and, and_false, and_self, not_true, not_false_iff, reduceCtorEq, forall_const, false_imp_iff, true_imp_iff, true_or, or_true, false_or, or_false, l.S 1 (by decide), l.S 3 (by decide), tS, l.r1_2, e2]
  have hin : ¬ b < 0 → b < nI n → b.toNatClampNeg < n ∧ hR h 3 b.toNatClampNeg = some (ad b.toNatClampNeg) ∧ (0 ≤ wKind w b.toNatClampNeg ∧ wKind w b.toNatClampNeg ≤ 7) ∧ (hS h)[ad b.toNatClampNeg]? = some (sortOf_ (wKind w b.toNatClampNeg)) := fun z y => by
    have := cl_in (c := b) (n := n) (Int32.not_lt.mp z) (by omega) y
    obtain ⟨-, q1, q2, -⟩ := hb _ this
    exact ⟨this, q1, q2, hB.sort this⟩
  unfold isThing_ isBody_
  rw [e1]
  by_cases z : b < 0
  · simp [z]; grind
  by_cases y : b < nI n
  · obtain ⟨i1, i2, i3, i4⟩ := hin z y
    have zb : (0 : Int32) ≤ b := Int32.not_lt.mp z
    have hx : ¬ (150 : Nat) ≤ b.toNatClampNeg := by omega
    generalize wKind w b.toNatClampNeg = k at i3 i4
    by_cases k0 : k = 0
    · subst k0
      simp [z, y, zb, i2, i4, q_okT, sortOf_, hx, q_gR]
    by_cases k6 : k = 6
    · subst k6
      simp [z, y, zb, i2, i4, q_okT, sortOf_, hx, q_gR]
    by_cases k7 : k = 7
    · subst k7
      simp [z, y, zb, i2, i4, q_okT, sortOf_, hx, q_gR]
    have k1 : k = 1 ∨ 2 ≤ k ∧ k ≤ 5 := by grind
    simp [z, y, zb, i2, i4, q_okT, sortOf_, hx, q_gR, k0, k6, k7, k1]
  · simp [z, y]
theorem t_X3_bodyAt {h w : AH} {n : Nat} {ad : Nat → Nat} (l : Lay h) (B : RB h w n ad) (b : Int32) : wp (f_X3_bodyAt (some 1) b h) (fun r h' => r = (if isBody_ w b = true then some (ad b.toNatClampNeg) else none) ∧ h' = h) := by
  have hB := B
  obtain ⟨hn, e1, e2, -, -, hb⟩ := B
  have hs : (hS h)[3]? = some (25, 150) := l.S 3 (by decide)
  unfold f_X3_bodyAt
  simp only [wp_some, wp_none, wp_ite, wp_cl, wp_rz, wp_nz, wp_nzL, wp_fI, wp_fL, wp_fR, wp_pI, wp_pL, wp_pR, wp_pZ, wp_aI, wp_aL, wp_aR, wp_bI, wp_bL, wp_bR, wp_rO, wp_cO, wp_nO, wp_iO, wp_tbI, wp_tbL, wp_jn, q_okT, q_okA, q_gI, q_gL, q_gR, q_sI, q_sL, q_sR, q_SI, q_SL, q_SR, q_II, q_IL, q_IR, q_LI, q_LL, q_LR, q_RI, q_RL, q_RR, List.contains_cons, List.contains_nil, Nat.reduceBEq, Nat.reduceEqDiff, beq_self_eq_true, Bool.or_false, Bool.false_or, Bool.true_or, Bool.or_true, Bool.and_true, Bool.true_and, Bool.false_and, Bool.and_false, if_true, if_false, Bool.false_eq_true, true_and, and_true, false_and, and_false, and_self, not_true, not_false_iff, reduceCtorEq, forall_const, false_imp_iff, true_imp_iff, true_or, or_true, false_or, or_false, l.S 1 (by decide), l.S 3 (by decide), tS, l.r1_2, e2]
  have hin : ¬ b < 0 → b < nI n → b.toNatClampNeg < n ∧ hR h 3 b.toNatClampNeg = some (ad b.toNatClampNeg) ∧ (0 ≤ wKind w b.toNatClampNeg ∧ wKind w b.toNatClampNeg ≤ 7) ∧ (hS h)[ad b.toNatClampNeg]? = some (sortOf_ (wKind w b.toNatClampNeg)) := fun z y => by
    have := cl_in (c := b) (n := n) (Int32.not_lt.mp z) (by omega) y
    obtain ⟨-, q1, q2, -⟩ := hb _ this
    exact ⟨this, q1, q2, hB.sort this⟩
  unfold isBody_
  rw [e1]
  by_cases z : b < 0
  · simp [z]; grind
  by_cases y : b < nI n
  · obtain ⟨i1, i2, i3, i4⟩ := hin z y
    have zb : (0 : Int32) ≤ b := Int32.not_lt.mp z
    have hx : ¬ (150 : Nat) ≤ b.toNatClampNeg := by omega
    generalize wKind w b.toNatClampNeg = k at i3 i4
    by_cases k0 : k = 0
    · subst k0
      simp [z, y, zb, i2, i4, q_okT, sortOf_, hx, q_gR]
    by_cases k6 : k = 6
    · subst k6
      simp [z, y, zb, i2, i4, q_okT, sortOf_, hx, q_gR]
    by_cases k7 : k = 7
    · subst k7
      simp [z, y, zb, i2, i4, q_okT, sortOf_, hx, q_gR]
    have k1 : k = 1 ∨ 2 ≤ k ∧ k ≤ 5 := by grind
    simp [z, y, zb, i2, i4, q_okT, sortOf_, hx, q_gR, k0, k6, k7, k1]
  · simp [z, y]
theorem isBody_in {w : AH} (hn : 0 ≤ wN w ∧ wN w ≤ 150) {b : Int32} (z : isBody_ w b = true) : ¬ b < 0 ∧ b.toNatClampNeg < 150 := by
  unfold isBody_ at z
  have z := of_decide_eq_true z
  exact ⟨by grind, cl_in (n := 150) z.1 (by decide) (by show b < 150; grind)⟩
theorem isBox_body {w : AH} {b : Int32} (z : isBox_ w b = true) : isBody_ w b = true := by
  unfold isBox_ at z
  exact (Bool.and_eq_true_iff.mp z).1
def isOut_ (w : AH) (b : Int32) : Bool := isBox_ w b && decide (wEnded w b.toNatClampNeg < 0)
def isRiddle_ (w : AH) (b : Int32) : Bool := isBody_ w b && under_ (wKind w b.toNatClampNeg) 2
theorem t_X12_isFinder (h : AH) (l : Lay h) (hn : 0 ≤ wN h ∧ wN h ≤ 150) (b : Int32) : wp (f_X12_isFinder (some 49) b h) (fun r h' => r = (if isFinder_ h b = true then 1 else 0) ∧ h' = h) := by
  unfold f_X12_isFinder isFinder_
  simp only [wp_some, wp_none, wp_ite, wp_cl, wp_rz, wp_nz, wp_nzL, wp_fI, wp_fL, wp_fR, wp_pI, wp_pL, wp_pR, wp_pZ, wp_aI, wp_aL, wp_aR, wp_bI, wp_bL, wp_bR, wp_rO, wp_cO, wp_nO, wp_iO, wp_tbI, wp_tbL, wp_jn, q_okT, q_okA, q_gI, q_gL, q_gR, q_sI, q_sL, q_sR, q_SI, q_SL, q_SR, q_II, q_IL, q_IR, q_LI, q_LL, q_LR, q_RI, q_RL, q_RR, List.contains_cons, List.contains_nil, Nat.reduceBEq, Nat.reduceEqDiff, beq_self_eq_true, Bool.or_false, Bool.false_or, Bool.true_or, Bool.or_true, Bool.and_true, Bool.true_and, Bool.false_and, Bool.and_false, if_true, if_false, Bool.false_eq_true, true_and, and_true, false_and, and_false, and_self, not_true, not_false_iff, reduceCtorEq, forall_const, false_imp_iff, true_imp_iff, true_or, or_true, false_or, or_false, wp_use (t_X12_isBody h l hn b), l.S 49 (by decide), l.S 51 (by decide), tS, l.r49_4]
  have hk := isBody_in (b := b) hn
  unfold wKind
  with_reducible (repeat' (first | apply And.intro | intro _)) <;> grind
theorem t_X12_isThing (h : AH) (l : Lay h) (hn : 0 ≤ wN h ∧ wN h ≤ 150) (b : Int32) : wp (f_X12_isThing (some 49) b h) (fun r h' => r = (if isThing_ h b = true then 1 else 0) ∧ h' = h) := by
  unfold f_X12_isThing isThing_
  simp only [wp_some, wp_none, wp_ite, wp_cl, wp_rz, wp_nz, wp_nzL, wp_fI, wp_fL, wp_fR, wp_pI, wp_pL, wp_pR, wp_pZ, wp_aI, wp_aL, wp_aR, wp_bI, wp_bL, wp_bR, wp_rO, wp_cO, wp_nO, wp_iO, wp_tbI, wp_tbL, wp_jn, q_okT, q_okA, q_gI, q_gL, q_gR, q_sI, q_sL, q_sR, q_SI, q_SL, q_SR, q_II, q_IL, q_IR, q_LI, q_LL, q_LR, q_RI, q_RL, q_RR, List.contains_cons, List.contains_nil, Nat.reduceBEq, Nat.reduceEqDiff, beq_self_eq_true, Bool.or_false, Bool.false_or, Bool.true_or, Bool.or_true, Bool.and_true, Bool.true_and, Bool.false_and, Bool.and_false, if_true, if_false, Bool.false_eq_true, true_and, and_true, false_and, and_false, and_self, not_true, not_false_iff, reduceCtorEq, forall_const, false_imp_iff, true_imp_iff, true_or, or_true, false_or, or_false, wp_use (t_X12_isBody h l hn b), l.S 49 (by decide), l.S 51 (by decide), tS, l.r49_4]
  have hk := isBody_in (b := b) hn
  unfold wKind
  with_reducible (repeat' (first | apply And.intro | intro _)) <;> grind
theorem t_X12_isRiddle (h : AH) (l : Lay h) (hn : 0 ≤ wN h ∧ wN h ≤ 150) (b : Int32) : wp (f_X12_isRiddle (some 49) b h) (fun r h' => r = (if isRiddle_ h b = true then 1 else 0) ∧ h' = h) := by
  unfold f_X12_isRiddle isRiddle_
  simp only [wp_some, wp_none, wp_ite, wp_cl, wp_rz, wp_nz, wp_nzL, wp_fI, wp_fL, wp_fR, wp_pI, wp_pL, wp_pR, wp_pZ, wp_aI, wp_aL, wp_aR, wp_bI, wp_bL, wp_bR, wp_rO, wp_cO, wp_nO, wp_iO, wp_tbI, wp_tbL, wp_jn, q_okT, q_okA, q_gI, q_gL, q_gR, q_sI, q_sL, q_sR, q_SI, q_SL, q_SR, q_II, q_IL, q_IR, q_LI, q_LL, q_LR, q_RI, q_RL, q_RR, List.contains_cons, List.contains_nil, Nat.reduceBEq, Nat.reduceEqDiff, beq_self_eq_true, Bool.or_false, Bool.false_or, Bool.true_or, Bool.or_true, Bool.and_true, Bool.true_and, Bool.false_and, Bool.and_false, if_true, if_false, Bool.false_eq_true, true_and, and_true, false_and, and_false, and_self, not_true, not_false_iff, reduceCtorEq, forall_const, false_imp_iff, true_imp_iff, true_or, or_true, false_or, or_false, wp_use (t_X12_isUnder _ _ _), wp_use (t_X12_isBody h l hn b), l.S 49 (by decide), l.S 51 (by decide), tS, l.r49_4]
  have hk := isBody_in (b := b) hn
  unfold wKind
  with_reducible (repeat' (first | apply And.intro | intro _)) <;> grind
theorem t_X12_isOut (h : AH) (l : Lay h) (hn : 0 ≤ wN h ∧ wN h ≤ 150) (b : Int32) : wp (f_X12_isOut (some 49) b h) (fun r h' => r = (if isOut_ h b = true then 1 else 0) ∧ h' = h) := by
  unfold f_X12_isOut isOut_
  simp only [wp_some, wp_none, wp_ite, wp_cl, wp_rz, wp_nz, wp_nzL, wp_fI, wp_fL, wp_fR, wp_pI, wp_pL, wp_pR, wp_pZ, wp_aI, wp_aL, wp_aR, wp_bI, wp_bL, wp_bR, wp_rO, wp_cO, wp_nO, wp_iO, wp_tbI, wp_tbL, wp_jn, q_okT, q_okA, q_gI, q_gL, q_gR, q_sI, q_sL, q_sR, q_SI, q_SL, q_SR, q_II, q_IL, q_IR, q_LI, q_LL, q_LR, q_RI, q_RL, q_RR, List.contains_cons, List.contains_nil, Nat.reduceBEq, Nat.reduceEqDiff, beq_self_eq_true, Bool.or_false, Bool.false_or, Bool.true_or, Bool.or_true, Bool.and_true, Bool.true_and, Bool.false_and, Bool.and_false, if_true, if_false, Bool.false_eq_true, true_and, and_true, false_and, and_false, and_self, not_true, not_false_iff, reduceCtorEq, forall_const, false_imp_iff, true_imp_iff, true_or, or_true, false_or, or_false, wp_use (t_X12_isBox h l hn b), l.S 49 (by decide), l.S 54 (by decide), tS, l.r49_7]
  have hk := isBody_in (b := b) hn
  have hk2 := isBox_body (w := h) (b := b)
  unfold wEnded
  with_reducible (repeat' (first | apply And.intro | intro _)) <;> grind
theorem nI_pos_of {c : Int32} (h0 : 0 ≤ c) : c = nI c.toNatClampNeg := by
  have h2 := nn32 c (Int32.not_lt.mpr h0)
  have hlt : c.toInt < 2 ^ 31 := c.toInt_lt
  apply Int32.toInt_inj.mp
  rw [nI_toInt (by omega), h2]
theorem cnt_nI (p : Nat → Bool) (i : Nat) : nI (cnt p i) + (if p i = true then 1 else 0) = nI (cnt p (i + 1)) := by
  show _ = nI (cnt p i + (if p i = true then 1 else 0))
  split
  · exact nI_add _ 1
  · exact nI_add _ 0
def own_ (w : AH) (f : Int32) : Int32 := nI (cnt (fun b => isOut_ w (nI b) && decide (wKeeper w b = f)) (wN w).toNatClampNeg)
theorem t_X12_ownOf (h : AH) (l : Lay h) (hn : 0 ≤ wN h ∧ wN h ≤ 150) (f : Int32) : wp (f_X12_ownOf (some 49) f h) (fun r h' => r = own_ h f ∧ h' = h) := by
  have hN := nI_pos_of hn.1
  have hN2 : (wN h).toNatClampNeg ≤ 150 := by
    have := cl_in (c := wN h) (n := 151) hn.1 (by decide) (by have := hn.2; show wN h < 151; grind)
    omega
  unfold f_X12_ownOf own_
  generalize (wN h).toNatClampNeg = N at hN hN2
  refine wp_lp3 (fun x1 x2 h1 => ∃ i : Nat, i ≤ N ∧ x2 = nI i ∧ x1 = nI (cnt (fun b => isOut_ h (nI b) && decide (wKeeper h b = f)) i) ∧ h1 = h) (fun _ x2 _ => N - x2.toNatClampNeg) ?_ ⟨0, Nat.zero_le N, rfl, rfl, rfl⟩ (by rw [lpN_eq]; omega)
  rintro G x1 x2 h1 ⟨i, hi, rfl, rfl, rfl⟩ ih
  have hN' : hI h1 49 3 = nI N := hN
  have hc : (nI i).toNatClampNeg = i := nI_clamp (by omega)
  have h0 : ¬ nI i < 0 := nI_pos (by omega)
  simp only [wp_some, wp_none, wp_ite, wp_cl, wp_rz, wp_nz, wp_nzL, wp_fI, wp_fL, wp_fR, wp_pI, wp_pL, wp_pR, wp_pZ, wp_aI, wp_aL, wp_aR, wp_bI, wp_bL, wp_bR, wp_rO, wp_cO, wp_nO, wp_iO, wp_tbI, wp_tbL, wp_jn, q_okT, q_okA, q_gI, q_gL, q_gR, q_sI, q_sL, q_sR, q_SI, q_SL, q_SR, q_II, q_IL, q_IR, q_LI, q_LL, q_LR, q_RI, q_RL, q_RR, List.contains_cons, List.contains_nil, Nat.reduceBEq, Nat.reduceEqDiff, beq_self_eq_true, Bool.or_false, Bool.false_or, Bool.true_or, Bool.or_true, Bool.and_true, Bool.true_and, Bool.false_and, Bool.and_false, if_true, if_false, Bool.false_eq_true, true_and, and_true, false_and, and_false, and_self, not_true, not_false_iff, reduceCtorEq, forall_const, false_imp_iff, true_imp_iff, true_or, or_true, false_or, or_false, wp_use (t_X12_isOut h1 l hn _), l.S 49 (by decide), l.S 55 (by decide), tS, l.r49_8, hN', nI_leI (show N < 2 ^ 31 by omega) (show i < 2 ^ 31 by omega), hc]
  refine ⟨fun z => ?_, fun z => ?_⟩
  · rw [show i = N by omega]
  · have hb : ¬ 150 ≤ i := by omega
    have step : ∀ x : Int32, x = (if (isOut_ h1 (nI i) && decide (wKeeper h1 i = f)) = true then 1 else 0) → wp (G (nI (cnt (fun b => isOut_ h1 (nI b) && decide (wKeeper h1 b = f)) i) + x) (nI i + 1) h1) (fun r h' => r = nI (cnt (fun b => isOut_ h1 (nI b) && decide (wKeeper h1 b = f)) N) ∧ h' = h1) := by
      intro x hx
      refine ih _ _ _ ⟨i + 1, by omega, nI_1 i, ?_, rfl⟩ (by rw [nI_1, hc, nI_clamp (by omega)]; omega)
      rw [hx]
      exact cnt_nI (fun b => isOut_ h1 (nI b) && decide (wKeeper h1 b = f)) i
    have hkp : wKeeper h1 i = hI h1 55 i := rfl
    rw [hkp] at step
    cases ho : isOut_ h1 (nI i) <;> simp [ho, h0, hb] at step ⊢
    · exact step
    · refine ⟨fun e => ?_, fun e => ?_⟩ <;> simpa [e] using step
theorem under1 {k : Int32} (h : under_ k 1 = true) : 1 ≤ k ∧ k ≤ 5 := by
  unfold under_ at h
  have h := of_decide_eq_true h
  grind
theorem t_X3_ownOf {h w : AH} {n : Nat} {ad : Nat → Nat} (l : Lay h) (B : RB h w n ad) (f : Int32) : wp (f_X3_ownOf (some 1) f h) (fun r h' => r = own_ w f ∧ h' = h) := by
  have hB := B
  obtain ⟨hn, e1, e2, -, -, hb⟩ := B
  unfold f_X3_ownOf own_
  rw [e1, nI_clamp (by omega)]
  refine wp_lp3 (fun x1 x2 h1 => ∃ i : Nat, i ≤ n ∧ x2 = nI i ∧ x1 = nI (cnt (fun b => isOut_ w (nI b) && decide (wKeeper w b = f)) i) ∧ h1 = h) (fun _ x2 _ => n - x2.toNatClampNeg) ?_ ⟨0, Nat.zero_le n, rfl, rfl, rfl⟩ (by rw [lpN_eq]; omega)
  rintro G x1 x2 h1 ⟨i, hi, rfl, rfl, rfl⟩ ih
  have hc : (nI i).toNatClampNeg = i := nI_clamp (by omega)
  simp only [wp_some, wp_none, wp_ite, wp_cl, wp_rz, wp_nz, wp_nzL, wp_fI, wp_fL, wp_fR, wp_pI, wp_pL, wp_pR, wp_pZ, wp_aI, wp_aL, wp_aR, wp_bI, wp_bL, wp_bR, wp_rO, wp_cO, wp_nO, wp_iO, wp_tbI, wp_tbL, wp_jn, q_okT, q_okA, q_gI, q_gL, q_gR, q_sI, q_sL, q_sR, q_SI, q_SL, q_SR, q_II, q_IL, q_IR, q_LI, q_LL, q_LR, q_RI, q_RL, q_RR, List.contains_cons, List.contains_nil, Nat.reduceBEq, Nat.reduceEqDiff, beq_self_eq_true, Bool.or_false, Bool.false_or, Bool.true_or, Bool.or_true, Bool.and_true, Bool.true_and, Bool.false_and, Bool.and_false, if_true, if_false, Bool.false_eq_true, true_and, and_true, false_and, and_false, and_self, not_true, not_false_iff, reduceCtorEq, forall_const, false_imp_iff, true_imp_iff, true_or, or_true, false_or, or_false, wp_use (t_X3_boxAt l hB _), l.S 1 (by decide), tS, e2, nI_leI (show n < 2 ^ 31 by omega) (show i < 2 ^ 31 by omega), hc]
  refine ⟨fun z => ?_, fun z => ?_⟩
  · rw [show i = n by omega]
  · have step : ∀ x : Int32, x = nI (cnt (fun b => isOut_ w (nI b) && decide (wKeeper w b = f)) (i + 1)) → wp (G x (nI i + 1) h1) (fun r h' => r = nI (cnt (fun b => isOut_ w (nI b) && decide (wKeeper w b = f)) n) ∧ h' = h1) := by
      intro x hx
      exact ih _ _ _ ⟨i + 1, by omega, nI_1 i, hx, rfl⟩ (by rw [nI_1, hc, nI_clamp (by omega)]; omega)
    rw [← cnt_nI] at step
    obtain ⟨-, -, -, -, -, -, -, -, hbox⟩ := hb i (by omega)
    by_cases ho : isBox_ w (nI i) = true
    · have hu : under_ (wKind w i) 1 = true := by
        have := (Bool.and_eq_true_iff.mp ho).2
        rwa [hc] at this
      obtain ⟨hsrt, -, -, -, -, -, -, -, -, -, hkp, -, -, hdn, -⟩ := hbox (under1 hu)
      have hout : isOut_ w (nI i) = decide (wEnded w i < 0) := by
        unfold isOut_
        rw [ho, hc, Bool.true_and]
      simp only [ho, if_true, hsrt, hkp, hdn, wp_some, wp_none, wp_ite, wp_cl, wp_rz, wp_nz, wp_nzL, wp_fI, wp_fL, wp_fR, wp_pI, wp_pL, wp_pR, wp_pZ, wp_aI, wp_aL, wp_aR, wp_bI, wp_bL, wp_bR, wp_rO, wp_cO, wp_nO, wp_iO, wp_tbI, wp_tbL, wp_jn, q_okT, q_okA, q_gI, q_gL, q_gR, q_sI, q_sL, q_sR, q_SI, q_SL, q_SR, q_II, q_IL, q_IR, q_LI, q_LL, q_LR, q_RI, q_RL, q_RR, List.contains_cons, List.contains_nil, Nat.reduceBEq, Nat.reduceEqDiff, beq_self_eq_true, Bool.or_false, Bool.false_or, Bool.true_or, Bool.or_true, Bool.and_true, Bool.true_and, Bool.false_and, Bool.and_false, if_true, if_false, Bool.false_eq_true, true_and, and_true, false_and, and_false, and_self, not_true, not_false_iff, reduceCtorEq, forall_const, false_imp_iff, true_imp_iff, true_or, or_true, false_or, or_false, hout] at step ⊢
      refine ⟨fun a => ⟨fun b => step _ ?_, fun b => step _ ?_⟩, fun a => step _ ?_⟩
      · simp [Int32.not_lt.mpr b]
      · simp [a, Int32.not_le.mp b]
      · simp [a]
    · have hout : isOut_ w (nI i) = false := by
        unfold isOut_
        rw [Bool.not_eq_true] at ho
        rw [ho, Bool.false_and]
      simp [ho, hout] at step ⊢
      exact step
