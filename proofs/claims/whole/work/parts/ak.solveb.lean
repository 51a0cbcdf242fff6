/-! solve, solved, others: the class -/
theorem stepC_cnt {wt : Nat} (L : List (Int32 × Int32)) : ∀ a : Acc, a.1 ≤ wt → (L.foldl (stepC wt) a).1 = if wt ≤ a.1 + L.length then wt else a.1 + L.length := by
  induction L with
  | nil => intro a h; rw [List.foldl_nil, List.length_nil]; split <;> omega
  | cons s L ih =>
    intro a h
    rw [List.foldl_cons, List.length_cons]
    by_cases c : wt ≤ a.1
    · have : stepC wt a s = a := by unfold stepC; rw [if_pos c]
      rw [this, ih a h]; split <;> split <;> omega
    · have : stepC wt a s = (a.1 + 1, s.1, s.2, a.2.2.2 ||| ((1 : Int64) <<< (s.2.toInt64 &&& 63))) := by unfold stepC; rw [if_neg c]
      rw [this, ih _ (by show a.1 + 1 ≤ wt; omega)]
      show (if wt ≤ a.1 + 1 + L.length then wt else a.1 + 1 + L.length) = _
      split <;> split <;> omega
theorem stepC_at {wt : Nat} (L : List (Int32 × Int32)) : ∀ a : Acc, a.1 < wt → wt ≤ a.1 + L.length → ((L.foldl (stepC wt) a).2.1, (L.foldl (stepC wt) a).2.2.1) = (L[wt - 1 - a.1]?).getD (-1, -1) := by
  induction L with
  | nil => intro a h h2; rw [List.length_nil] at h2; omega
  | cons s L ih =>
    intro a h h2
    rw [List.length_cons] at h2
    rw [List.foldl_cons]
    have e : stepC wt a s = (a.1 + 1, s.1, s.2, a.2.2.2 ||| ((1 : Int64) <<< (s.2.toInt64 &&& 63))) := by unfold stepC; rw [if_neg (by omega)]
    rw [e]
    by_cases c : a.1 + 1 = wt
    · rw [stepC_done (by show wt ≤ a.1 + 1; omega)]
      have : wt - 1 - a.1 = 0 := by omega
      rw [this]; rfl
    · rw [ih _ (by show a.1 + 1 < wt; omega) (by show wt ≤ a.1 + 1 + L.length; omega)]
      have : wt - 1 - a.1 = (wt - 1 - (a.1 + 1)) + 1 := by omega
      rw [this, List.getElem?_cons_succ]
theorem stepC_b {wt : Nat} (L : List (Int32 × Int32)) : ∀ a : Acc, a.1 + L.length ≤ wt → (L.foldl (stepC wt) a).2.2.2 = L.foldl (fun z s => z ||| ((1 : Int64) <<< (s.2.toInt64 &&& 63))) a.2.2.2 := by
  induction L with
  | nil => intro a _; rfl
  | cons s L ih =>
    intro a h
    rw [List.length_cons] at h
    rw [List.foldl_cons, List.foldl_cons]
    have e : stepC wt a s = (a.1 + 1, s.1, s.2, a.2.2.2 ||| ((1 : Int64) <<< (s.2.toInt64 &&& 63))) := by unfold stepC; rw [if_neg (by omega)]
    rw [e, ih _ (by show a.1 + 1 + L.length ≤ wt; omega)]
theorem solL_mem {il : Nat → Bool} {ok : Dg → Bool} {ce : Dg → Int32} : ∀ (f x u : Nat) (D : Dg) (sf : Int32) (s : Int32 × Int32), s ∈ solL il ok ce f x u D sf → ∃ E, ok E = true ∧ s.2 = ce E := by
  intro f
  induction f with
  | zero =>
    intro x u D sf s h
    unfold solL at h
    by_cases c : ok D = true
    · rw [if_pos c] at h
      rw [List.mem_singleton.mp h]
      exact ⟨D, c, rfl⟩
    · rw [if_neg c] at h; cases h
  | succ f ih =>
    intro x u D sf s h
    rw [solL_s] at h
    by_cases c : il x = true
    · rw [if_pos c] at h
      obtain ⟨d, -, hd⟩ := List.mem_flatMap.mp h
      by_cases t : u.testBit d = true
      · rw [if_pos t] at hd; cases hd
      · rw [if_neg t] at hd
        exact ih _ _ _ _ _ hd
    · rw [if_neg c] at h
      exact ih _ _ _ _ _ h
theorem sols_cell {w : AH} {b m kx ky : Nat} {D : Dg} (h : okS w b m kx ky D = true) : ∃ c, c < 60 ∧ celA w b kx ky D = nI c := by
  unfold okS at h
  obtain ⟨h1, h3⟩ := Bool.and_eq_true_iff.mp h
  obtain ⟨-, h2⟩ := Bool.and_eq_true_iff.mp h1
  rw [in_9] at h2
  rw [in_5] at h3
  have h2 := of_decide_eq_true h2
  have h3 := of_decide_eq_true h3
  obtain ⟨x, hx, ex⟩ := nI_in0 (n := 10) h2.1 (by omega) h2.2
  obtain ⟨y, hy, ey⟩ := nI_in0 (n := 6) h3.1 (by omega) h3.2
  refine ⟨10 * y + x, by omega, ?_⟩
  unfold celA
  rw [ex, ey, nI_m10, nI_add]
theorem bit_60 : ∀ c : Nat, c < 60 → ∀ f : Nat, f < 60 → ((1 : Int64) <<< ((nI c).toInt64 &&& 63)) &&& (((1 : Int64) <<< ((nI f).toInt64 &&& 63)) ^^^ (-1 : Int64)) = if c = f then 0 else (1 : Int64) <<< ((nI c).toInt64 &&& 63) := by decide +kernel
theorem i64_dist (x y z : Int64) : (x ||| y) &&& z = (x &&& z) ||| (y &&& z) := by
  apply Int64.toBitVec_inj.mp
  rw [Int64.toBitVec_and, Int64.toBitVec_or, Int64.toBitVec_or, Int64.toBitVec_and, Int64.toBitVec_and]
  ext i hi
  simp only [BitVec.getElem_and, BitVec.getElem_or]
  cases x.toBitVec[i] <;> cases y.toBitVec[i] <;> cases z.toBitVec[i] <;> rfl
theorem bits_eq {f : Nat} (hf : f < 60) (L : List (Int32 × Int32)) (hL : ∀ s ∈ L, ∃ c, c < 60 ∧ s.2 = nI c) : ∀ z : Int64, (L.foldl (fun z s => z ||| ((1 : Int64) <<< (s.2.toInt64 &&& 63))) z) &&& (((1 : Int64) <<< ((nI f).toInt64 &&& 63)) ^^^ (-1 : Int64)) = bits_ (nI f) L (z &&& (((1 : Int64) <<< ((nI f).toInt64 &&& 63)) ^^^ (-1 : Int64))) := by
  induction L with
  | nil => intro z; rfl
  | cons s L ih =>
    intro z
    obtain ⟨c, hc, ec⟩ := hL s List.mem_cons_self
    rw [List.foldl_cons, ih (fun s hs => hL s (List.mem_cons_of_mem _ hs)), i64_dist, ec, bit_60 c hc f hf]
    unfold bits_
    rw [List.foldl_cons, ec]
    congr 1
    by_cases y : c = f
    · have y2 : nI c = nI f := by rw [y]
      rw [if_pos y, if_pos y2, Int64.or_zero]
    · have y2 : ¬ nI c = nI f := by rw [nI_eq (by omega) (by omega)]; exact y
      rw [if_neg y, if_neg y2]
theorem t_X5_tellsCell {h w : AH} {P : Nat → Prog} {ad : Nat → Nat} (R : RC h w P ad) (WDw : WD w) {b : Nat} (hb : b < nB w) (hk : hI w 51 b = 2 ∨ hI w 51 b = 5) : wp (f_X5_tellsCell (some (ad b + 4)) h) (fun r h' => r = (if canS_ w b = true then 1 else 0) ∧ h' = h) := by
  obtain ⟨-, s5, -, -⟩ := R.B.rr hb hk
  have old := R.dd b hb hk
  obtain ⟨m, h8, em, tk⟩ := WDw b hb hk
  have o10 := old.2.2.1
  have o11 := old.2.2.2.1
  have m1 : (-1 : Int32) < 0 := by decide
  unfold f_X5_tellsCell canS_
  cases e4 : told_ w b 4 with
  | none =>
    rw [e4] at o10
    have o10 : hI h (ad b + 4) 10 = -1 := o10
    simp (config := {decide := true, maxSteps := 5000000}) (disch := omega) only [↓reduceIte, ↓wp_some, ↓wp_none, wp_ite, ↓wp_cl, ↓wp_rz, ↓wp_nz, ↓wp_nzL, ↓wp_fI, ↓wp_fL, ↓wp_fR, ↓wp_pI, ↓wp_pL, ↓wp_pR, ↓wp_pZ, ↓wp_aI, ↓wp_aL, ↓wp_aR, ↓wp_bI, ↓wp_bL, ↓wp_bR, ↓wp_rO, ↓wp_cO, ↓wp_nO, ↓wp_iO, ↓wp_tbI, ↓wp_tbL, ↓wp_jn, q_okT, q_okA, q_gI, q_gL, q_gR, q_sI, q_sL, q_sR, q_SI, q_SL, q_SR, q_IL, q_IR, q_LI, q_LR, q_RI, q_RL, List.contains_cons, List.contains_nil, Nat.reduceBEq, Nat.reduceEqDiff, beq_self_eq_true, Bool.or_false, Bool.false_or, Bool.true_or, Bool.or_true, Bool.and_true, Bool.true_and, Bool.false_and, Bool.and_false, if_true, if_false, Bool.false_eq_true, true_and, and_true, false_and, and_false, and_self, not_true, not_false_iff, reduceCtorEq, forall_const, false_imp_iff, true_imp_iff, true_or, or_true, false_or, or_false, s5, o10, m1, Option.isSome_none, Bool.false_and]
  | some kx =>
    rw [e4] at o10
    have o10 : hI h (ad b + 4) 10 = nI kx := o10
    have x0 : ¬ nI kx < 0 := nI_pos (by have := (told_lt em h8 e4).1; omega)
    cases e5 : told_ w b 5 with
    | none =>
      rw [e5] at o11
      have o11 : hI h (ad b + 4) 11 = -1 := o11
      simp (config := {decide := true, maxSteps := 5000000}) (disch := omega) only [↓reduceIte, ↓wp_some, ↓wp_none, wp_ite, ↓wp_cl, ↓wp_rz, ↓wp_nz, ↓wp_nzL, ↓wp_fI, ↓wp_fL, ↓wp_fR, ↓wp_pI, ↓wp_pL, ↓wp_pR, ↓wp_pZ, ↓wp_aI, ↓wp_aL, ↓wp_aR, ↓wp_bI, ↓wp_bL, ↓wp_bR, ↓wp_rO, ↓wp_cO, ↓wp_nO, ↓wp_iO, ↓wp_tbI, ↓wp_tbL, ↓wp_jn, q_okT, q_okA, q_gI, q_gL, q_gR, q_sI, q_sL, q_sR, q_SI, q_SL, q_SR, q_IL, q_IR, q_LI, q_LR, q_RI, q_RL, List.contains_cons, List.contains_nil, Nat.reduceBEq, Nat.reduceEqDiff, beq_self_eq_true, Bool.or_false, Bool.false_or, Bool.true_or, Bool.or_true, Bool.and_true, Bool.true_and, Bool.false_and, Bool.and_false, if_true, if_false, Bool.false_eq_true, true_and, and_true, false_and, and_false, and_self, not_true, not_false_iff, reduceCtorEq, forall_const, false_imp_iff, true_imp_iff, true_or, or_true, false_or, or_false, s5, o10, o11, x0, m1, Option.isSome_none, Bool.and_false]
    | some ky =>
      rw [e5] at o11
      have o11 : hI h (ad b + 4) 11 = nI ky := o11
      have y0 : ¬ nI ky < 0 := nI_pos (by have := (told_lt em h8 e5).1; omega)
      simp (config := {decide := true, maxSteps := 5000000}) (disch := omega) only [↓reduceIte, ↓wp_some, ↓wp_none, wp_ite, ↓wp_cl, ↓wp_rz, ↓wp_nz, ↓wp_nzL, ↓wp_fI, ↓wp_fL, ↓wp_fR, ↓wp_pI, ↓wp_pL, ↓wp_pR, ↓wp_pZ, ↓wp_aI, ↓wp_aL, ↓wp_aR, ↓wp_bI, ↓wp_bL, ↓wp_bR, ↓wp_rO, ↓wp_cO, ↓wp_nO, ↓wp_iO, ↓wp_tbI, ↓wp_tbL, ↓wp_jn, q_okT, q_okA, q_gI, q_gL, q_gR, q_sI, q_sL, q_sR, q_SI, q_SL, q_SR, q_IL, q_IR, q_LI, q_LR, q_RI, q_RL, List.contains_cons, List.contains_nil, Nat.reduceBEq, Nat.reduceEqDiff, beq_self_eq_true, Bool.or_false, Bool.false_or, Bool.true_or, Bool.or_true, Bool.and_true, Bool.true_and, Bool.false_and, Bool.and_false, if_true, if_false, Bool.false_eq_true, true_and, and_true, false_and, and_false, and_self, not_true, not_false_iff, reduceCtorEq, forall_const, false_imp_iff, true_imp_iff, true_or, or_true, false_or, or_false, s5, o10, o11, x0, y0, Option.isSome_some, Bool.and_true]
theorem t_X5_lookFor {h w : AH} {P : Nat → Prog} {ad : Nat → Nat} (R : RC h w P ad) (WDw : WD w) {b : Nat} (hb : b < nB w) (hk : hI w 51 b = 2 ∨ hI w 51 b = 5) (c : canS_ w b = true) {wt : Nat} (hwt : wt < 2 ^ 31) (h1 : 1 ≤ wt) : wp (f_X5_lookFor (some (ad b + 4)) (nI wt) h) (fun _ h' => StS h h' (ad b + 4) wt ((sols_ w b).foldl (stepC wt) (0, hI h (ad b + 4) 0, hI h (ad b + 4) 1, 0))) := by
  obtain ⟨m, kx, ky, T, em, e4, e5, es⟩ := canS_ex WDw hb hk c
  obtain ⟨-, s5, -, -⟩ := R.B.rr hb hk
  have C : Cx (ad b + 4) h (wL (wI (wI h (ad b + 4) 14 (nI wt)) (ad b + 4) 13 0) (ad b + 4) 2 0) := (((Cx.refl _ h).wI _ 14 _ (by omega)).wI _ 13 _ (by omega)).wL _
  have R3 := R.cx hb hk C
  have te := t_X5_tellsCell R3 WDw hb hk
  rw [if_pos c] at te
  have S : StS h (wL (wI (wI h (ad b + 4) 14 (nI wt)) (ad b + 4) 13 0) (ad b + 4) 2 0) (ad b + 4) wt (0, hI h (ad b + 4) 0, hI h (ad b + 4) 1, 0) := by
    refine ⟨C, ?_, ?_, ?_, ?_, ?_⟩
    · show hI (wI (wI h (ad b + 4) 14 (nI wt)) (ad b + 4) 13 0) (ad b + 4) 13 = nI 0
      rw [q_at]; rfl
    · show hI (wI (wI h (ad b + 4) 14 (nI wt)) (ad b + 4) 13 0) (ad b + 4) 14 = nI wt
      rw [q_II, if_neg (by omega), q_at]
    · show hI (wI (wI h (ad b + 4) 14 (nI wt)) (ad b + 4) 13 0) (ad b + 4) 0 = hI h (ad b + 4) 0
      rw [q_II, if_neg (by omega), q_II, if_neg (by omega)]
    · show hI (wI (wI h (ad b + 4) 14 (nI wt)) (ad b + 4) 13 0) (ad b + 4) 1 = hI h (ad b + 4) 1
      rw [q_II, if_neg (by omega), q_II, if_neg (by omega)]
    · show hL (wL _ (ad b + 4) 2 0) (ad b + 4) 2 = 0
      rw [q_LL, if_pos ⟨rfl, rfl⟩]
  have sea := t_seaS R hb hk T em e4 e5 (wt := wt) (f := 6) (fun g hg => t_sea R hb hk T em e4 e5 hwt 6 g hg)
  have sea := sea 0 100 0 _ _ 0 (by omega) (fun q => absurd q (by decide)) (by omega) (by omega) S (by show 0 < wt; omega) (fun k _ l hl => absurd hl (by omega))
  unfold f_X5_lookFor f_X5_search
  rw [opq_eq]
  rw [es (hI (wL (wI (wI h (ad b + 4) 14 (nI wt)) (ad b + 4) 13 0) (ad b + 4) 2 0) (ad b + 10))]
  simp (config := {decide := true, maxSteps := 5000000}) (disch := omega) only [↓reduceIte, ↓wp_some, ↓wp_none, wp_ite, ↓wp_cl, ↓wp_rz, ↓wp_nz, ↓wp_nzL, ↓wp_fI, ↓wp_fL, ↓wp_fR, ↓wp_pI, ↓wp_pL, ↓wp_pR, ↓wp_pZ, ↓wp_aI, ↓wp_aL, ↓wp_aR, ↓wp_bI, ↓wp_bL, ↓wp_bR, ↓wp_rO, ↓wp_cO, ↓wp_nO, ↓wp_iO, ↓wp_tbI, ↓wp_tbL, ↓wp_jn, q_okT, q_okA, q_gI, q_gL, q_gR, q_sI, q_sL, q_sR, q_SI, q_SL, q_SR, q_IL, q_IR, q_LI, q_LR, q_RI, q_RL, List.contains_cons, List.contains_nil, Nat.reduceBEq, Nat.reduceEqDiff, beq_self_eq_true, Bool.or_false, Bool.false_or, Bool.true_or, Bool.or_true, Bool.and_true, Bool.true_and, Bool.false_and, Bool.and_false, if_true, if_false, Bool.false_eq_true, true_and, and_true, false_and, and_false, and_self, not_true, not_false_iff, reduceCtorEq, forall_const, false_imp_iff, true_imp_iff, true_or, or_true, false_or, or_false, s5, wp_use te]
  refine wp_mono sea ?_
  rintro _ h' ⟨q1, -⟩
  exact q1
