/-! the call hide -/
def stpd (u : AH) (n : Nat) : Nat → AH
  | 0 => u
  | i + 1 => wI (stpd u n i) 57 (4 * n + i) (hI u 58 i)
theorem stpd_I (u : AH) (n i : Nat) {a : Nat} (h : a ≠ 57) : hI (stpd u n i) a = hI u a := by
  induction i with
  | zero => rfl
  | succ i ih => unfold stpd; rw [q_ne h]; exact ih
theorem stpd_L (u : AH) (n i : Nat) : hL (stpd u n i) = hL u := by
  induction i with
  | zero => rfl
  | succ i ih => exact ih
theorem stpd_57 (u : AH) (n i j : Nat) : hI (stpd u n i) 57 j = if 4 * n ≤ j ∧ j < 4 * n + i then hI u 58 (j - 4 * n) else hI u 57 j := by
  induction i with
  | zero => rw [if_neg (by omega)]; rfl
  | succ i ih =>
    unfold stpd
    rw [q_II]
    by_cases z : j = 4 * n + i
    · rw [if_pos ⟨rfl, z⟩, if_pos (by omega), z, Nat.add_sub_cancel_left]
    · rw [if_neg (fun y => z y.2), ih]
      by_cases y : 4 * n ≤ j ∧ j < 4 * n + i
      · rw [if_pos y, if_pos (by omega)]
      · rw [if_neg y, if_neg (by omega)]
def hidV (w : AH) (f k c : Int32) : AH := wI (stpd (wI (wI (addW w k) 55 (nB w) f) 52 (nB w) c) (nB w) (if k = 3 then nS w else 0)) 56 (nB w) (if k = 3 then nI (nS w) else 0)
def hidW (w : AH) (f k c : Int32) : AH := wI (hidV w f k c) 49 11 0
def s_hide (w : AH) (P : Nat → Prog) (f k c : Int32) : Int32 × AH := if isFinder_ w f = true ∧ canAsk_ w k c = true then (if why_ w P f.toNatClampNeg k c.toNatClampNeg = 0 then (if nB w = 150 then (-3, w) else (nI (nB w), hidW w f k c)) else (-20 - told4 (why_ w P f.toNatClampNeg k c.toNatClampNeg), w)) else (-1, w)
theorem RC.steps0 {h w : AH} {P : Nat → Prog} {ad : Nat → Nat} (R : RC h w P ad) : RC (wI h 1 5 0) (wI w 49 11 0) P ad := by
  refine R.fix (R.l.wI _ _ _) rfl rfl (fun a ha => q_ne (by omega)) rfl (fun _ _ => rfl) rfl rfl ?_ ?_ ?_ ?_ ?_ ?_ ?_ ?_
  · exact ⟨R.td, fun c hc => R.ow hc, rfl, R.i4⟩
  · exact R.mm
  · exact R.ll
  · exact R.rr
  · exact R.tt
  · exact R.kk
  · intro s hs; have := R.ss s hs; unfold shelfAt_ at *; rw [q_ne (show 36 + 2 * s ≠ 1 by omega)]; exact this
  · exact R.aa
def tkS (h : AH) (N : Nat) : Nat → AH
  | 0 => h
  | i + 1 => wI (wI (tkS h N i) (N + 1) i (hI h 4 i)) N 10 (nI (i + 1))
theorem tkS_ne (h : AH) (N i : Nat) {a : Nat} (h1 : a ≠ N) (h2 : a ≠ N + 1) : hI (tkS h N i) a = hI h a := by
  induction i with
  | zero => rfl
  | succ i ih => unfold tkS; rw [q_ne h1, q_ne h2]; exact ih
theorem tkS_S (h : AH) (N i : Nat) : hS (tkS h N i) = hS h := by
  induction i with
  | zero => rfl
  | succ i ih => exact ih
theorem tkS_R (h : AH) (N i : Nat) : hR (tkS h N i) = hR h := by
  induction i with
  | zero => rfl
  | succ i ih => exact ih
theorem tkS_L (h : AH) (N i : Nat) : hL (tkS h N i) = hL h := by
  induction i with
  | zero => rfl
  | succ i ih => exact ih
theorem tkS_N (h : AH) (N i : Nat) {j : Nat} (hj : j ≠ 10) : hI (tkS h N i) N j = hI h N j := by
  induction i with
  | zero => rfl
  | succ i ih => unfold tkS; rw [q_atne hj, q_ne (by omega)]; exact ih
theorem tkS_10 (h : AH) (N i : Nat) (z : hI h N 10 = 0) : hI (tkS h N i) N 10 = nI i := by
  cases i with
  | zero => exact z
  | succ i => exact q_at
theorem tkS_1 (h : AH) (N i : Nat) {j : Nat} (hj : j < i) : hI (tkS h N i) (N + 1) j = hI h 4 j := by
  induction i with
  | zero => omega
  | succ i ih =>
    unfold tkS
    rw [q_ne (by omega), q_II]
    by_cases z : j = i
    · subst z; rw [if_pos ⟨rfl, rfl⟩]
    · rw [if_neg (fun y => z y.2)]; exact ih (by omega)
theorem t_X1_takeSteps {h : AH} (l : Lay h) {N m : Nat} (hN : 49 ≤ N) (s : (hS h)[N]? = some (1, 19)) (r4 : hR h N 4 = some (N + 1)) (s1 : (hS h)[N + 1]? = some (20, 4)) (hm : m ≤ 4) : wp (f_X1_takeSteps (some N) (some 4) (nI m) h) (fun _ h' => h' = tkS h N m) := by
  have s4 := l.s4
  unfold f_X1_takeSteps
  refine wp_g2 m (fun i x hh => x = nI i ∧ hh = tkS h N i) ⟨rfl, rfl⟩ (by omega) ?_ ?_
  · rintro G x hh ⟨rfl, rfl⟩
    simp (config := {decide := true, maxSteps := 5000000}) (disch := omega) only [↓reduceIte, ↓wp_some, ↓wp_none, wp_ite, ↓wp_cl, ↓wp_rz, ↓wp_nz, ↓wp_nzL, ↓wp_fI, ↓wp_fL, ↓wp_fR, ↓wp_pI, ↓wp_pL, ↓wp_pR, ↓wp_pZ, ↓wp_aI, ↓wp_aL, ↓wp_aR, ↓wp_bI, ↓wp_bL, ↓wp_bR, ↓wp_rO, ↓wp_cO, ↓wp_nO, ↓wp_iO, ↓wp_tbI, ↓wp_tbL, ↓wp_jn, q_okT, q_okA, q_gI, q_gL, q_gR, q_sI, q_sL, q_sR, q_SI, q_SL, q_SR, q_II, q_IL, q_IR, q_LI, q_LL, q_LR, q_RI, q_RL, q_RR, List.contains_cons, List.contains_nil, Nat.reduceBEq, Nat.reduceEqDiff, beq_self_eq_true, Bool.or_false, Bool.false_or, Bool.true_or, Bool.or_true, Bool.and_true, Bool.true_and, Bool.false_and, Bool.and_false, if_true, if_false, Bool.false_eq_true, true_and, and_true, false_and, and_false, and_self, not_true, not_false_iff, reduceCtorEq, forall_const, false_imp_iff, true_imp_iff, true_or, or_true, false_or, or_false, n1_0, m1neg, ne_eq, nle2, n24, n10, nle, b10, b11, am1, n0m1, Int32.add_zero, Int32.zero_add, ite_true, ite_false, Bool.and_eq_true, nI_m4, nI_m5, nI_m8, nI_m10, nI_m12, nI_m24, nI_m31, nI_m40, nI_m60, nI_m81, nI_m161, nI_m170, nI_p2, nI_p3, nI_p4, nI_p5, nI_p6, nI_pred, nI_leI, nI_ltI, nI_eq, nI_clamp, nI_neg, nI_ge0, nI_neg1, nI_1, nI_add, nI_mul, dle, decide_true, decide_false, Bool.not_true, Bool.not_false, decide_eq_true_eq, Nat.le_refl]
  · rintro G i x hh hi ⟨rfl, rfl⟩ ih
    have ih := ih _ _ ⟨rfl, rfl⟩
    have l4 : ¬ (4 : Int32) ≤ nI i := by rw [show (4 : Int32) = nI 4 from rfl, nI_leI (by omega) (by omega)]; omega
    have l5 : ¬ nI 4 ≤ nI i := l4
    have lm : ¬ nI m ≤ nI i := by rw [nI_leI (by omega) (by omega)]; omega
    have ss4 : (hS (tkS h N i))[4]? = some (20, 4) := by rw [tkS_S]; exact s4
    have e4 : hI (tkS h N i) 4 i = hI h 4 i := by rw [tkS_ne h N i (by omega) (by omega)]
    have rr : hR (tkS h N i) N 4 = some (N + 1) := by rw [tkS_R]; exact r4
    have ssN : (hS (tkS h N i))[N]? = some (1, 19) := by rw [tkS_S]; exact s
    have ssM : (hS (tkS h N i))[N + 1]? = some (20, 4) := by rw [tkS_S]; exact s1
    have ci : (nI i).toNatClampNeg = i := nI_clamp (by omega)
    have p1 : nI i + 1 = nI (i + 1) := nI_add i 1
    simp (config := {decide := true, maxSteps := 5000000}) (disch := omega) only [↓reduceIte, ↓wp_some, ↓wp_none, wp_ite, ↓wp_cl, ↓wp_rz, ↓wp_nz, ↓wp_nzL, ↓wp_fI, ↓wp_fL, ↓wp_fR, ↓wp_pI, ↓wp_pL, ↓wp_pR, ↓wp_pZ, ↓wp_aI, ↓wp_aL, ↓wp_aR, ↓wp_bI, ↓wp_bL, ↓wp_bR, ↓wp_rO, ↓wp_cO, ↓wp_nO, ↓wp_iO, ↓wp_tbI, ↓wp_tbL, ↓wp_jn, q_okT, q_okA, q_gI, q_gL, q_gR, q_sI, q_sL, q_sR, q_SI, q_SL, q_SR, q_IL, q_IR, q_LI, q_LR, q_RI, q_RL, List.contains_cons, List.contains_nil, Nat.reduceBEq, Nat.reduceEqDiff, beq_self_eq_true, Bool.or_false, Bool.false_or, Bool.true_or, Bool.or_true, Bool.and_true, Bool.true_and, Bool.false_and, Bool.and_false, if_true, if_false, Bool.false_eq_true, true_and, and_true, false_and, and_false, and_self, not_true, not_false_iff, reduceCtorEq, forall_const, false_imp_iff, true_imp_iff, true_or, or_true, false_or, or_false, lm, l4, wp_aN ss4, l5, ssN, rr, ss4, ssM, e4, ci, p1, nI_neg, dle, decide_false, Bool.not_false]
    exact ih
theorem swap13 (X : AH) (n : Nat) (r : Option Nat) (v a : Int32) : wI (wR (wI X 1 5 a) 3 n r) 1 3 v = wI (wI (wR X 3 n r) 1 3 v) 1 5 a := by
  refine AHext rfl (fun b j => ?_) rfl
  rw [q_II, q_IR, q_II, q_II, q_II, q_IR]
  by_cases z : b = 1 ∧ j = 3
  · rw [if_pos z, if_neg (by omega), if_pos z]
  · rw [if_neg z, if_neg z]
theorem hidV_facts {w : AH} (f k c : Int32) : hI (hidV w f k c) 49 3 = nI (nB w + 1) ∧ (∀ j, j ≠ 3 → hI (hidV w f k c) 49 j = hI w 49 j) ∧ (∀ a, a = 50 ∨ (58 ≤ a ∧ a ≤ 65) ∨ 67 ≤ a → hI (hidV w f k c) a = hI w a) ∧ (∀ a, (51 ≤ a ∧ a ≤ 56) ∨ a = 66 → ∀ j, j ≠ nB w → hI (hidV w f k c) a j = hI w a j) ∧ (∀ j, j < 4 * nB w ∨ 4 * nB w + (if k = 3 then nS w else 0) ≤ j → hI (hidV w f k c) 57 j = hI w 57 j) ∧ hL (hidV w f k c) = hL w := by
  obtain ⟨y1, y2, y3, y4, y5, y6, y7, y8, y9⟩ := addW_facts (w := w) k
  unfold hidV
  refine ⟨?_, fun j hj => ?_, fun a ha => ?_, fun a ha j hj => ?_, fun j hj => ?_, ?_⟩
  · rw [q_ne (by omega), stpd_I _ _ _ (by omega), q_ne (by omega), q_ne (by omega)]; exact y1
  · rw [q_ne (by omega), stpd_I _ _ _ (by omega), q_ne (by omega), q_ne (by omega)]; exact y2 j hj
  · rw [q_ne (by omega), stpd_I _ _ _ (by omega), q_ne (by omega), q_ne (by omega)]; exact y3 a (by omega)
  · rw [q_II, if_neg (by omega), stpd_I _ _ _ (by omega), q_II, if_neg (by omega), q_II, if_neg (by omega)]; exact y4 a ha j hj
  · rw [q_ne (by omega), stpd_57, if_neg (by omega), q_ne (by omega), q_ne (by omega), y3 57 (by omega)]
  · show hL (stpd _ _ _) = _
    rw [stpd_L]; rfl
theorem hidV_new {w : AH} (f k c : Int32) : hI (hidV w f k c) 51 (nB w) = k ∧ hI (hidV w f k c) 54 (nB w) = -1 ∧ hI (hidV w f k c) 66 (nB w) = -1 ∧ hI (hidV w f k c) 53 (nB w) = hI w 49 1 ∧ hI (hidV w f k c) 55 (nB w) = f ∧ hI (hidV w f k c) 52 (nB w) = c ∧ hI (hidV w f k c) 56 (nB w) = (if k = 3 then nI (nS w) else 0) ∧ ∀ i, i < (if k = 3 then nS w else 0) → hI (hidV w f k c) 57 (4 * nB w + i) = hI w 58 i := by
  obtain ⟨y1, y2, y3, y4, y5, y6, y7, y8, y9⟩ := addW_facts (w := w) k
  unfold hidV
  refine ⟨?_, ?_, ?_, ?_, ?_, ?_, q_at, fun i hi => ?_⟩
  · rw [q_ne (by omega), stpd_I _ _ _ (by omega), q_ne (by omega), q_ne (by omega)]; exact y5
  · rw [q_ne (by omega), stpd_I _ _ _ (by omega), q_ne (by omega), q_ne (by omega)]; exact y6
  · rw [q_ne (by omega), stpd_I _ _ _ (by omega), q_ne (by omega), q_ne (by omega)]; exact y7
  · rw [q_ne (by omega), stpd_I _ _ _ (by omega), q_ne (by omega), q_ne (by omega)]; exact y8
  · rw [q_ne (by omega), stpd_I _ _ _ (by omega), q_ne (by omega), q_at]
  · rw [q_ne (by omega), stpd_I _ _ _ (by omega), q_at]
  · rw [q_ne (by omega), stpd_57, if_pos (by omega), Nat.add_sub_cancel_left, q_ne (by omega), q_ne (by omega), y3 58 (by omega)]
