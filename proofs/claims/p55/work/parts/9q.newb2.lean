/-! NEW BODIES: their constructors -/
theorem glen (h : AH) (t n : Nat) : (hS (grow h t n)).length = (hS h).length + 1 := by
  show (h.1 ++ [(t, n)]).length = h.1.length + 1
  rw [List.length_append]; rfl
theorem grow_s {h : AH} {t n a : Nat} (e : a < (hS h).length) : (hS (grow h t n))[a]? = (hS h)[a]? := List.getElem?_append_left e
theorem grow_t {h : AH} {t n a : Nat} (e : a = (hS h).length) : (hS (grow h t n))[a]? = some (t, n) := by
  subst e
  show (h.1 ++ [(t, n)])[h.1.length]? = _
  rw [List.getElem?_append_right (Nat.le_refl _), Nat.sub_self]; rfl
theorem gI_ne {h : AH} {t n b : Nat} (e : b ≠ (hS h).length) : hI (grow h t n) b = hI h b := funext fun j => if_neg e
theorem gR_ne {h : AH} {t n b : Nat} (e : b ≠ (hS h).length) : hR (grow h t n) b = hR h b := funext fun j => if_neg e
theorem gL_ne {h : AH} {t n b : Nat} (e : b ≠ (hS h).length) : hL (grow h t n) b = hL h b := funext fun j => if_neg e
theorem gI_eq {h : AH} {t n b : Nat} (e : b = (hS h).length) (j : Nat) : hI (grow h t n) b j = 0 := if_pos e
theorem q_Rne {h : AH} {a k : Nat} {v : Option Nat} {b : Nat} (e : b ≠ a) : hR (wR h a k v) b = hR h b := funext fun j => if_neg (fun y => e y.1)
theorem q_Rat {h : AH} {a k : Nat} {v : Option Nat} : hR (wR h a k v) a k = v := if_pos ⟨rfl, rfl⟩
theorem q_Ratne {h : AH} {a k : Nat} {v : Option Nat} {j : Nat} (e : j ≠ k) : hR (wR h a k v) a j = hR h a j := if_neg (fun y => e y.2)
theorem t_X0_init {h : AH} {N : Nat} (o : okT h [0, 1, 2, 9] (some N) = true) (x k : Int32) : wp (f_X0_init (some N) x k h) (fun r h' => r = () ∧ h' = wI (wI h N 0 x) N 1 k) := by
  unfold f_X0_init
  simp (config := {decide := true, maxSteps := 5000000}) (disch := omega) only [↓reduceIte, ↓wp_some, ↓wp_none, wp_ite, ↓wp_cl, ↓wp_rz, ↓wp_nz, ↓wp_nzL, ↓wp_fI, ↓wp_fL, ↓wp_fR, ↓wp_pI, ↓wp_pL, ↓wp_pR, ↓wp_pZ, ↓wp_aI, ↓wp_aL, ↓wp_aR, ↓wp_bI, ↓wp_bL, ↓wp_bR, ↓wp_rO, ↓wp_cO, ↓wp_nO, ↓wp_iO, ↓wp_tbI, ↓wp_tbL, ↓wp_jn, q_okA, q_gI, q_gL, q_gR, q_sI, q_sL, q_sR, q_SI, q_SL, q_SR, q_IL, q_IR, q_LI, q_LR, q_RI, q_RL, List.contains_cons, List.contains_nil, Nat.reduceBEq, Nat.reduceEqDiff, beq_self_eq_true, Bool.or_false, Bool.false_or, Bool.true_or, Bool.or_true, Bool.and_true, Bool.true_and, Bool.false_and, Bool.and_false, if_true, if_false, Bool.false_eq_true, true_and, and_true, false_and, and_false, and_self, not_true, not_false_iff, reduceCtorEq, forall_const, false_imp_iff, true_imp_iff, true_or, or_true, false_or, or_false, o, okT_w]
theorem okT_in {h : AH} {a t n : Nat} {cs : List Nat} (e : (hS h)[a]? = some (t, n)) (c : cs.contains t = true) : okT h cs (some a) = true := by
  simp only [okT, e]; exact c
theorem t_X2_init {h : AH} {N : Nat} (s : (hS h)[N]? = some (2, 5)) (x c d : Int32) : wp (f_X2_init (some N) x c d h) (fun r h' => r = () ∧ h' = wI (wI (wI (wI (wI h N 0 x) N 1 7) N 4 (-1)) N 2 c) N 3 d) := by
  unfold f_X2_init
  simp (config := {decide := true, maxSteps := 5000000}) (disch := omega) only [↓reduceIte, ↓wp_some, ↓wp_none, wp_ite, ↓wp_cl, ↓wp_rz, ↓wp_nz, ↓wp_nzL, ↓wp_fI, ↓wp_fL, ↓wp_fR, ↓wp_pI, ↓wp_pL, ↓wp_pR, ↓wp_pZ, ↓wp_aI, ↓wp_aL, ↓wp_aR, ↓wp_bI, ↓wp_bL, ↓wp_bR, ↓wp_rO, ↓wp_cO, ↓wp_nO, ↓wp_iO, ↓wp_tbI, ↓wp_tbL, ↓wp_jn, q_okT, q_okA, q_gI, q_gL, q_gR, q_sI, q_sL, q_sR, q_SI, q_SL, q_SR, q_IL, q_IR, q_LI, q_LR, q_RI, q_RL, List.contains_cons, List.contains_nil, Nat.reduceBEq, Nat.reduceEqDiff, beq_self_eq_true, Bool.or_false, Bool.false_or, Bool.true_or, Bool.or_true, Bool.and_true, Bool.true_and, Bool.false_and, Bool.and_false, if_true, if_false, Bool.false_eq_true, true_and, and_true, false_and, and_false, and_self, not_true, not_false_iff, reduceCtorEq, forall_const, false_imp_iff, true_imp_iff, true_or, or_true, false_or, or_false, s, wp_go (t_X0_init (okT_in s (by decide)) _ _)]
theorem t_X5_init {h : AH} {N : Nat} (hN : (hS h).length = N + 1) (s : (hS h)[N]? = some (5, 15)) : wp (f_X5_init (some N) h) (fun _ h' => hS h' = hS h ++ [(20, 8), (20, 8), (20, 8), (20, 8), (20, 8), (20, 6)] ∧ (∀ b, b < N → hI h' b = hI h b ∧ hR h' b = hR h b ∧ hL h' b = hL h b) ∧ (hR h' N 3 = some (N + 1) ∧ hR h' N 4 = some (N + 2) ∧ hR h' N 5 = some (N + 3) ∧ hR h' N 6 = some (N + 4) ∧ hR h' N 7 = some (N + 5) ∧ hR h' N 12 = some (N + 6)) ∧ hI h' N 8 = hI h N 8 ∧ hI h' N 9 = hI h N 9 ∧ hI h' N 10 = -1 ∧ hI h' N 11 = -1) := by
  unfold f_X5_init
  simp (config := {decide := true, maxSteps := 5000000}) (disch := (first | omega | (simp only [glen, q_SI, q_SR, hN]; done) | (simp only [glen, q_SI, q_SR, hN]; omega))) only [↓reduceIte, ↓wp_some, ↓wp_none, wp_ite, ↓wp_cl, ↓wp_rz, ↓wp_nz, ↓wp_nzL, ↓wp_fI, ↓wp_fL, ↓wp_fR, ↓wp_pI, ↓wp_pL, ↓wp_pR, ↓wp_pZ, ↓wp_aI, ↓wp_aL, ↓wp_aR, ↓wp_bI, ↓wp_bL, ↓wp_bR, ↓wp_rO, ↓wp_cO, ↓wp_nO, ↓wp_iO, ↓wp_tbI, ↓wp_tbL, ↓wp_jn, q_okT, q_okA, q_gI, q_gL, q_gR, q_sI, q_sL, q_sR, q_SI, q_SL, q_SR, q_IL, q_IR, q_LI, q_LR, q_RI, q_RL, List.contains_cons, List.contains_nil, Nat.reduceBEq, Nat.reduceEqDiff, beq_self_eq_true, Bool.or_false, Bool.false_or, Bool.true_or, Bool.or_true, Bool.and_true, Bool.true_and, Bool.false_and, Bool.and_false, if_true, if_false, Bool.false_eq_true, true_and, and_true, false_and, and_false, and_self, not_true, not_false_iff, reduceCtorEq, forall_const, false_imp_iff, true_imp_iff, true_or, or_true, false_or, or_false, ↓wp_nO, s, grow_s, grow_t, glen, hN]
  refine ⟨by show (((((hS h ++ [_]) ++ [_]) ++ [_]) ++ [_]) ++ [_]) ++ [_] = _; simp only [List.append_assoc]; rfl, fun b hb => ⟨?_, ?_, ?_⟩, ⟨?_, ?_, ?_, ?_, ?_, ?_⟩, ?_, ?_, ?_, ?_⟩
  all_goals simp (config := {decide := true, maxSteps := 5000000}) (disch := (first | omega | (simp only [glen, q_SI, q_SR, hN]; done) | (simp only [glen, q_SI, q_SR, hN]; omega))) only [q_IR, q_RI, q_LI, q_LR, q_ne, q_at, q_atne, gI_ne, gR_ne, gL_ne, q_Rne, q_Rat, q_Ratne]
/-- what a box's constructor leaves: its cells from N on -/
def NewBox (h h' : AH) (N : Nat) (x K f c d : Int32) : Prop := (∀ b, b < N → hI h' b = hI h b ∧ hR h' b = hR h b ∧ hL h' b = hL h b) ∧ (hI h' N 0 = x ∧ hI h' N 1 = K ∧ hI h' N 2 = d ∧ hI h' N 3 = c ∧ hI h' N 8 = f ∧ hI h' N 9 = c ∧ hI h' N 10 = 0 ∧ hI h' N 11 = -1 ∧ hI h' N 12 = 0 ∧ hI h' N 13 = 0 ∧ hI h' N 14 = -1 ∧ hI h' N 15 = 0 ∧ hI h' N 16 = 0 ∧ hI h' N 17 = 0 ∧ hI h' N 18 = -1) ∧ (hR h' N 4 = some (N + 1) ∧ hR h' N 5 = some (N + 2) ∧ hR h' N 6 = some (N + 3) ∧ hR h' N 7 = (if K = 2 ∨ K = 5 then some (N + 4) else none))
theorem t_X1_init {h : AH} {N : Nat} (hN : (hS h).length = N + 1) (s : (hS h)[N]? = some (1, 19)) (z : ∀ j, hI h N j = 0) (zr : hR h N 7 = none) {x K f c d : Int32} (hK : boxK K = true) : wp (f_X1_init (some N) x K f c d h) (fun _ h' => hS h' = hS h ++ ((List.range (blk K)).map (sB K)).tail ∧ NewBox h h' N x K f c d ∧ (K = 2 ∨ K = 5 → (hR h' (N + 4) 3 = some (N + 5) ∧ hR h' (N + 4) 4 = some (N + 6) ∧ hR h' (N + 4) 5 = some (N + 7) ∧ hR h' (N + 4) 6 = some (N + 8) ∧ hR h' (N + 4) 7 = some (N + 9) ∧ hR h' (N + 4) 12 = some (N + 10)) ∧ hI h' (N + 4) 8 = 0 ∧ hI h' (N + 4) 9 = 0 ∧ hI h' (N + 4) 10 = -1 ∧ hI h' (N + 4) 11 = -1)) := by
  have kb := boxK_iff.mp hK
  unfold f_X1_init
  by_cases c0 : K = 2 ∨ K = 5
  · have bl : (List.range (blk K)).map (sB K) = [(1, 19), (20, 4), (20, 40), (20, 8), (5, 15), (20, 8), (20, 8), (20, 8), (20, 8), (20, 8), (20, 6)] := by
      rcases c0 with rfl | rfl <;> decide
    rw [bl]
    have main : ∀ (X Y : Option (Unit × AH)) (Q : Unit → AH → Prop), wp X Q → wp (if K = 2 then X else if K = 5 then X else Y) Q := by
      intro X Y Q w
      rcases c0 with e | e
      · rw [if_pos e]; exact w
      · rw [if_neg (by rw [e]; decide), if_pos e]; exact w
    simp (config := {decide := true, maxSteps := 5000000}) (disch := (first | omega | (simp only [glen, q_SI, q_SR, hN]; done) | (simp only [glen, q_SI, q_SR, hN]; omega))) only [↓wp_rO, ↓wp_cl, ↓wp_nO, ↓wp_pI, ↓wp_pR, ↓wp_jn, wp_some, q_okT, q_SI, q_SR, q_sI, q_sR, List.contains_cons, List.contains_nil, Nat.reduceBEq, beq_self_eq_true, Bool.or_false, Bool.false_or, Bool.true_or, Bool.or_true, true_and, s, wp_go (t_X0_init (okT_in s (by decide)) _ _), grow_s, grow_t, glen, hN]
    refine main _ _ _ ?_
    simp (config := {decide := true, maxSteps := 5000000}) (disch := (first | omega | (simp only [glen, q_SI, q_SR, hN]; done) | (simp only [glen, q_SI, q_SR, hN]; omega))) only [↓wp_rO, ↓wp_cl, ↓wp_nO, ↓wp_pI, ↓wp_pR, ↓wp_jn, wp_some, q_okT, q_SI, q_SR, q_sI, q_sR, List.contains_cons, List.contains_nil, Nat.reduceBEq, beq_self_eq_true, Bool.or_false, Bool.false_or, Bool.true_or, Bool.or_true, true_and, s, grow_s, grow_t, glen, hN]
    refine wp_mono (t_X5_init (N := N + 4) ?_ ?_) ?_
    · simp only [glen, q_SI, q_SR, hN]
    · exact grow_t (by simp only [glen, q_SI, q_SR, hN])
    · rintro _ h2 ⟨e1, e2, e3, e8, e9, e10, e11⟩
      have ss : (hS h2)[N]? = some (1, 19) := by
        rw [e1, List.getElem?_append_left (by simp only [glen, q_SI, q_SR, hN]; omega)]
        simp (config := {decide := true, maxSteps := 5000000}) (disch := (first | omega | (simp only [glen, q_SI, q_SR, hN]; done) | (simp only [glen, q_SI, q_SR, hN]; omega))) only [q_SI, q_SR, grow_s, s]
      simp (config := {decide := true, maxSteps := 5000000}) only [↓wp_pR, wp_some, q_okT, q_sR, ss, List.contains_cons, List.contains_nil, Nat.reduceBEq, beq_self_eq_true, Bool.or_false, Bool.true_or, true_and]
      refine ⟨?_, ⟨fun b hb => ⟨?_, ?_, ?_⟩, ⟨?_, ?_, ?_, ?_, ?_, ?_, ?_, ?_, ?_, ?_, ?_, ?_, ?_, ?_, ?_⟩, ?_, ?_, ?_, ?_⟩, fun _ => ⟨?_, ?_, ?_, ?_, ?_⟩⟩
      · rw [e1]
        show ((((hS h ++ [_]) ++ [_]) ++ [_]) ++ [_]) ++ _ = _
        simp only [List.append_assoc]; rfl
      · rw [q_IR, (e2 b (by omega)).1]
        simp (config := {decide := true, maxSteps := 5000000}) (disch := (first | omega | (simp only [glen, q_SI, q_SR, hN]; done) | (simp only [glen, q_SI, q_SR, hN]; omega))) only [q_IR, q_RI, q_LI, q_LR, q_ne, q_at, q_atne, gI_ne, gR_ne, gL_ne, q_Rne, q_Rat, q_Ratne]
      · rw [q_Rne (by omega), (e2 b (by omega)).2.1]
        simp (config := {decide := true, maxSteps := 5000000}) (disch := (first | omega | (simp only [glen, q_SI, q_SR, hN]; done) | (simp only [glen, q_SI, q_SR, hN]; omega))) only [q_IR, q_RI, q_LI, q_LR, q_ne, q_at, q_atne, gI_ne, gR_ne, gL_ne, q_Rne, q_Rat, q_Ratne]
      · rw [q_LR, (e2 b (by omega)).2.2]
        simp (config := {decide := true, maxSteps := 5000000}) (disch := (first | omega | (simp only [glen, q_SI, q_SR, hN]; done) | (simp only [glen, q_SI, q_SR, hN]; omega))) only [q_IR, q_RI, q_LI, q_LR, q_ne, q_at, q_atne, gI_ne, gR_ne, gL_ne, q_Rne, q_Rat, q_Ratne]
      iterate 15 · rw [q_IR, (e2 N (by omega)).1]
                   simp (config := {decide := true, maxSteps := 5000000}) (disch := (first | omega | (simp only [glen, q_SI, q_SR, hN]; done) | (simp only [glen, q_SI, q_SR, hN]; omega))) only [q_IR, q_RI, q_LI, q_LR, q_ne, q_at, q_atne, gI_ne, gR_ne, gL_ne, q_Rne, q_Rat, q_Ratne, z]
      iterate 3 · rw [q_Ratne (by omega), (e2 N (by omega)).2.1]
                  simp (config := {decide := true, maxSteps := 5000000}) (disch := (first | omega | (simp only [glen, q_SI, q_SR, hN]; done) | (simp only [glen, q_SI, q_SR, hN]; omega))) only [q_IR, q_RI, q_LI, q_LR, q_ne, q_at, q_atne, gI_ne, gR_ne, gL_ne, q_Rne, q_Rat, q_Ratne]
      · rw [q_Rat, if_pos c0]
      · rw [q_Rne (by omega)]; exact e3
      · rw [q_IR, e8]; exact gI_eq (by simp only [glen, q_SI, q_SR, hN]) _
      · rw [q_IR, e9]; exact gI_eq (by simp only [glen, q_SI, q_SR, hN]) _
      · rw [q_IR]; exact e10
      · rw [q_IR]; exact e11
  · have bl : (List.range (blk K)).map (sB K) = [(1, 19), (20, 4), (20, 40), (20, 8)] := by
      have : K = 1 ∨ K = 3 ∨ K = 4 := by grind
      rcases this with rfl | rfl | rfl <;> decide
    rw [bl]
    have c1 : ¬ K = 2 := fun e => c0 (Or.inl e)
    have c2 : ¬ K = 5 := fun e => c0 (Or.inr e)
    simp (config := {decide := true, maxSteps := 5000000}) (disch := (first | omega | (simp only [glen, q_SI, q_SR, hN]; done) | (simp only [glen, q_SI, q_SR, hN]; omega))) only [↓reduceIte, ↓wp_some, ↓wp_none, wp_ite, ↓wp_cl, ↓wp_rz, ↓wp_nz, ↓wp_nzL, ↓wp_fI, ↓wp_fL, ↓wp_fR, ↓wp_pI, ↓wp_pL, ↓wp_pR, ↓wp_pZ, ↓wp_aI, ↓wp_aL, ↓wp_aR, ↓wp_bI, ↓wp_bL, ↓wp_bR, ↓wp_rO, ↓wp_cO, ↓wp_nO, ↓wp_iO, ↓wp_tbI, ↓wp_tbL, ↓wp_jn, q_okT, q_okA, q_gI, q_gL, q_gR, q_sI, q_sL, q_sR, q_SI, q_SL, q_SR, q_IL, q_IR, q_LI, q_LR, q_RI, q_RL, List.contains_cons, List.contains_nil, Nat.reduceBEq, Nat.reduceEqDiff, beq_self_eq_true, Bool.or_false, Bool.false_or, Bool.true_or, Bool.or_true, Bool.and_true, Bool.true_and, Bool.false_and, Bool.and_false, if_true, if_false, Bool.false_eq_true, true_and, and_true, false_and, and_false, and_self, not_true, not_false_iff, reduceCtorEq, forall_const, false_imp_iff, true_imp_iff, true_or, or_true, false_or, or_false, ↓wp_nO, s, wp_go (t_X0_init (okT_in s (by decide)) _ _), grow_s, grow_t, glen, hN, c1, c2]
    refine ⟨?_, ⟨fun b hb => ⟨?_, ?_, ?_⟩, ⟨?_, ?_, ?_, ?_, ?_, ?_, ?_, ?_, ?_, ?_, ?_, ?_, ?_, ?_, ?_⟩, ?_, ?_, ?_, ?_⟩⟩
    · show ((hS h ++ [_]) ++ [_]) ++ [_] = _
      simp only [List.append_assoc]; rfl
    all_goals simp (config := {decide := true, maxSteps := 5000000}) (disch := (first | omega | (simp only [glen, q_SI, q_SR, hN]; done) | (simp only [glen, q_SI, q_SR, hN]; omega))) only [q_IR, q_RI, q_LI, q_LR, q_ne, q_at, q_atne, gI_ne, gR_ne, gL_ne, q_Rne, q_Rat, q_Ratne, z, c1, c2, or_self, if_false]
