/-! solve: the class's search -/
theorem holdsC_eq {w : AH} {b m kx ky : Nat} (T : TelW w b m kx ky) {D E : Dg} {k l : Nat} (hk : k < m) (hl : l < 6) (el : lst_ w b k = nI l) (e : eqD (inL w b m) (l + 1) D E) : holdsC w b kx ky D k = holdsC w b kx ky E k := by
  obtain ⟨l', h1, h2, h3, -⟩ := lst_x T hk
  have : l' = l := by rw [h2, nI_eq (by omega) (by omega)] at el; exact el
  subst this
  obtain ⟨-, ⟨f, hf, ef⟩, ht⟩ := h3 hl
  have e1 : dD D (hI w 82 (8 * b + k)) = dD E (hI w 82 (8 * b + k)) := by
    unfold dD
    rw [ef, nI_clamp (by omega)]
    exact e f (by omega) (inL_at hk ef)
  have e2 : hI w 81 (8 * b + k) ≤ 2 → dD D (hI w 83 (8 * b + k)) = dD E (hI w 83 (8 * b + k)) := fun c => by
    obtain ⟨t, h4, et⟩ := ht c
    unfold dD
    rw [et, nI_clamp (by omega)]
    exact e t (by omega) (inL_at2 hk c et)
  have eh : hold_ w b D k = hold_ w b E k := by
    unfold hold_
    by_cases c : hI w 81 (8 * b + k) ≤ 2
    · simp only [e1, e2 c]
    · have n0 : ¬ hI w 81 (8 * b + k) = 0 := by grind
      have n1 : ¬ hI w 81 (8 * b + k) = 1 := by grind
      have n2 : ¬ hI w 81 (8 * b + k) = 2 := by grind
      simp only [n0, n1, n2, e1, if_false]
  have ec : coord_ w b D k = coord_ w b E k := by unfold coord_; rw [e1]
  unfold holdsC
  rw [eh, ec]
theorem holdsC_bad {w : AH} {b m kx ky : Nat} {D : Dg} {k : Nat} (hk : k < m) (h : holdsC w b kx ky D k = false) : okS w b m kx ky D = false := by
  unfold holdsC at h
  unfold okS
  by_cases c4 : hI w 81 (8 * b + k) < 4
  · rw [if_pos c4] at h
    unfold allHold_
    rw [anyN_at hk (by rw [h, decide_eq_true c4]; rfl)]; rfl
  · rw [if_neg c4] at h
    by_cases c : hI w 81 (8 * b + k) = 4
    · rw [if_pos c] at h
      by_cases z : k = kx
      · subst z
        rw [decide_eq_true rfl, Bool.not_true, Bool.false_or] at h
        rw [h, Bool.and_false, Bool.false_and]
      · rw [decide_eq_false z, Bool.not_false, Bool.true_or] at h; cases h
    · rw [if_neg c] at h
      by_cases z : k = ky
      · subst z
        rw [decide_eq_true rfl, Bool.not_true, Bool.false_or] at h
        rw [h, Bool.and_false]
      · rw [decide_eq_false z, Bool.not_false, Bool.true_or] at h; cases h
def okBelow (w : AH) (b m kx ky x : Nat) (D : Dg) : Prop := ∀ k, k < m → ∀ l, l < x → lst_ w b k = nI l → holdsC w b kx ky D k = true
theorem okBelow_6 {w : AH} {b m kx ky : Nat} (T : TelW w b m kx ky) {D : Dg} (h : okBelow w b m kx ky 6 D) : allHold_ w b m D = true := by
  unfold allHold_
  rw [anyN_none (fun k hk => ?_)]; · rfl
  by_cases c4 : hI w 81 (8 * b + k) < 4
  · obtain ⟨l, -, el, -, h4⟩ := lst_x T hk
    have := h k hk l (h4 c4) el
    unfold holdsC at this
    rw [if_pos c4] at this
    rw [this, Bool.not_true, Bool.and_false]
  · rw [decide_eq_false c4, Bool.false_and]
theorem solL_nil {il : Nat → Bool} {ok : Dg → Bool} {ce : Dg → Int32} : ∀ (f x u : Nat) (D : Dg) (sf : Int32), (∀ E, eqD il x D E → ok E = false) → solL il ok ce f x u D sf = [] := by
  intro f
  induction f with
  | zero =>
    intro x u D sf h
    unfold solL
    rw [h D (fun _ _ _ => rfl)]; rfl
  | succ f ih =>
    intro x u D sf h
    rw [solL_s]
    by_cases c : il x = true
    · rw [if_pos c]
      refine List.flatMap_eq_nil_iff.mpr (fun d _ => ?_)
      by_cases t : u.testBit d = true
      · rw [if_pos t]
      · rw [if_neg t]
        refine ih _ _ _ _ (fun E e => h E (fun j hj hl => ?_))
        have := e j (by omega) hl
        unfold setD at this
        rw [if_neg (by omega)] at this
        exact this
    · rw [if_neg c]
      exact ih _ _ _ _ (fun E e => h E (fun j hj hl => e j (by omega) hl))
def stepC (wt : Nat) (a : Acc) (s : Int32 × Int32) : Acc := if wt ≤ a.1 then a else (a.1 + 1, s.1, s.2, a.2.2.2 ||| ((1 : Int64) <<< (s.2.toInt64 &&& 63)))
theorem stepC_done {wt : Nat} {a : Acc} (h : wt ≤ a.1) (L : List (Int32 × Int32)) : L.foldl (stepC wt) a = a := by
  induction L with
  | nil => rfl
  | cons s L ih =>
    rw [List.foldl_cons]
    have : stepC wt a s = a := by unfold stepC; rw [if_pos h]
    rw [this, ih]
theorem stepC_le {wt : Nat} (L : List (Int32 × Int32)) : ∀ a : Acc, a.1 ≤ wt → (L.foldl (stepC wt) a).1 ≤ wt := by
  induction L with
  | nil => intro a h; exact h
  | cons s L ih =>
    intro a h
    rw [List.foldl_cons]
    refine ih _ ?_
    unfold stepC
    split
    · exact h
    · show a.1 + 1 ≤ wt; omega
theorem foldN_fix {α : Type} {g : Nat → α → α} {a : α} {d : Nat} (h : ∀ k, d ≤ k → g k (foldN g a d) = foldN g a d) : ∀ n, d ≤ n → foldN g a n = foldN g a d := by
  intro n
  induction n with
  | zero => intro z; have : d = 0 := by omega
            rw [this]
  | succ n ih =>
    intro z
    rcases Nat.lt_or_ge n d with y | y
    · have : d = n + 1 := by omega
      rw [this]
    · rw [foldN_S, ih y, h n y]
def StS (h hh : AH) (o wt : Nat) (a : Acc) : Prop := Cx o h hh ∧ hI hh o 13 = nI a.1 ∧ hI hh o 14 = nI wt ∧ hI hh o 0 = a.2.1 ∧ hI hh o 1 = a.2.2.1 ∧ hL hh o 2 = a.2.2.2
theorem t_X5_meet {h w : AH} {P : Nat → Prog} {ad : Nat → Nat} (R : RC h w P ad) {b m kx ky : Nat} (hb : b < nB w) (hk : hI w 51 b = 2 ∨ hI w 51 b = 5) (T : TelW w b m kx ky) (em : hI w 80 b = nI m) (e4 : told_ w b 4 = some kx) (e5 : told_ w b 5 = some ky) {wt : Nat} {a : Acc} {hh : AH} (sf : Int32) (S : StS h hh (ad b + 4) wt a) (ha : a.1 < wt) (ok : allHold_ w b m (hI hh (ad b + 10)) = true) : wp (f_X5_meet (some (ad b + 4)) sf hh) (fun _ h' => StS h h' (ad b + 4) wt ((if okS w b m kx ky (hI hh (ad b + 10)) = true then [(sf, celA w b kx ky (hI hh (ad b + 10)))] else []).foldl (stepC wt) a) ∧ hI h' (ad b + 10) = hI hh (ad b + 10)) := by
  have R1 := R.cx hb hk S.1
  obtain ⟨-, s5, -, -⟩ := R1.B.rr hb hk
  obtain ⟨o8, o9, o10, o11, -⟩ := R1.kt hb hk T em e4 e5
  have cx := t_X5_coordinate R1 hb hk T em e4 e5 T.2.2.1
  have cy := t_X5_coordinate R1 hb hk T em e4 e5 T.2.2.2
  have e1 : nI a.1 + 1 = nI (a.1 + 1) := nI_add _ 1
  obtain ⟨C, a13, a14, a0, a1, a2⟩ := S
  unfold okS
  rw [ok, Bool.true_and, in_9, in_5]
  unfold f_X5_meet
  by_cases c1 : 0 ≤ coord_ w b (hI hh (ad b + 10)) kx ∧ coord_ w b (hI hh (ad b + 10)) kx < 10
  · by_cases c2 : 0 ≤ coord_ w b (hI hh (ad b + 10)) ky ∧ coord_ w b (hI hh (ad b + 10)) ky < 6
    · rw [decide_eq_true c1, decide_eq_true c2, Bool.true_and, if_pos rfl, List.foldl_cons, List.foldl_nil]
      have ec : stepC wt a (sf, celA w b kx ky (hI hh (ad b + 10))) = (a.1 + 1, sf, celA w b kx ky (hI hh (ad b + 10)), a.2.2.2 ||| ((1 : Int64) <<< ((celA w b kx ky (hI hh (ad b + 10))).toInt64 &&& 63))) := by unfold stepC; rw [if_neg (by omega)]
      rw [ec]
      have ece : (10 : Int32) * coord_ w b (hI hh (ad b + 10)) ky + coord_ w b (hI hh (ad b + 10)) kx = celA w b kx ky (hI hh (ad b + 10)) := rfl
      simp (config := {decide := true, maxSteps := 5000000}) (disch := omega) only [↓reduceIte, ↓wp_some, ↓wp_none, wp_ite, ↓wp_cl, ↓wp_rz, ↓wp_nz, ↓wp_nzL, ↓wp_fI, ↓wp_fL, ↓wp_fR, ↓wp_pI, ↓wp_pL, ↓wp_pR, ↓wp_pZ, ↓wp_aI, ↓wp_aL, ↓wp_aR, ↓wp_bI, ↓wp_bL, ↓wp_bR, ↓wp_rO, ↓wp_cO, ↓wp_nO, ↓wp_iO, ↓wp_tbI, ↓wp_tbL, ↓wp_jn, q_okT, q_okA, q_gI, q_gL, q_gR, q_sI, q_sL, q_sR, q_SI, q_SL, q_SR, q_II, q_IL, q_IR, q_LI, q_LL, q_LR, q_RI, q_RL, q_RR, List.contains_cons, List.contains_nil, Nat.reduceBEq, Nat.reduceEqDiff, beq_self_eq_true, Bool.or_false, Bool.false_or, Bool.true_or, Bool.or_true, Bool.and_true, Bool.true_and, Bool.false_and, Bool.and_false, if_true, if_false, Bool.false_eq_true, true_and, and_true, false_and, and_false, and_self, not_true, not_false_iff, reduceCtorEq, forall_const, false_imp_iff, true_imp_iff, true_or, or_true, false_or, or_false, s5, o10, o11, wp_use cx, wp_use cy, wp_use (t_X5_isWithin _ _ _), c1, c2, ece, a13, a2, e1]
      refine ⟨⟨(((C.wI _ 0 _ (by omega)).wI _ 1 _ (by omega)).wL _).wI _ 13 _ (by omega), ?_, ?_, ?_, ?_, ?_⟩, ?_⟩
      · rw [q_at]
      · rw [q_II, if_neg (by omega)]
        show hI (wI (wI hh (ad b + 4) 0 _) (ad b + 4) 1 _) (ad b + 4) 14 = _
        rw [q_II, if_neg (by omega), q_II, if_neg (by omega)]; exact a14
      · rw [q_II, if_neg (by omega)]
        show hI (wI (wI hh (ad b + 4) 0 _) (ad b + 4) 1 _) (ad b + 4) 0 = _
        rw [q_II, if_neg (by omega), q_at]
      · rw [q_II, if_neg (by omega)]
        show hI (wI (wI hh (ad b + 4) 0 _) (ad b + 4) 1 _) (ad b + 4) 1 = _
        rw [q_at]
      · show hL (wL hh (ad b + 4) 2 _) (ad b + 4) 2 = _
        rw [q_LL, if_pos ⟨rfl, rfl⟩]
      · rw [q_ne (by omega)]
        show hI (wI (wI hh (ad b + 4) 0 _) (ad b + 4) 1 _) (ad b + 10) = _
        rw [q_ne (by omega), q_ne (by omega)]
    · rw [decide_eq_false c2, Bool.and_false, if_neg (by decide), List.foldl_nil]
      simp (config := {decide := true, maxSteps := 5000000}) (disch := omega) only [↓reduceIte, ↓wp_some, ↓wp_none, wp_ite, ↓wp_cl, ↓wp_rz, ↓wp_nz, ↓wp_nzL, ↓wp_fI, ↓wp_fL, ↓wp_fR, ↓wp_pI, ↓wp_pL, ↓wp_pR, ↓wp_pZ, ↓wp_aI, ↓wp_aL, ↓wp_aR, ↓wp_bI, ↓wp_bL, ↓wp_bR, ↓wp_rO, ↓wp_cO, ↓wp_nO, ↓wp_iO, ↓wp_tbI, ↓wp_tbL, ↓wp_jn, q_okT, q_okA, q_gI, q_gL, q_gR, q_sI, q_sL, q_sR, q_SI, q_SL, q_SR, q_II, q_IL, q_IR, q_LI, q_LL, q_LR, q_RI, q_RL, q_RR, List.contains_cons, List.contains_nil, Nat.reduceBEq, Nat.reduceEqDiff, beq_self_eq_true, Bool.or_false, Bool.false_or, Bool.true_or, Bool.or_true, Bool.and_true, Bool.true_and, Bool.false_and, Bool.and_false, if_true, if_false, Bool.false_eq_true, true_and, and_true, false_and, and_false, and_self, not_true, not_false_iff, reduceCtorEq, forall_const, false_imp_iff, true_imp_iff, true_or, or_true, false_or, or_false, s5, o10, o11, wp_use cx, wp_use cy, wp_use (t_X5_isWithin _ _ _), c1, c2]
      exact ⟨C, a13, a14, a0, a1, a2⟩
  · rw [decide_eq_false c1, Bool.false_and, if_neg (by decide), List.foldl_nil]
    simp (config := {decide := true, maxSteps := 5000000}) (disch := omega) only [↓reduceIte, ↓wp_some, ↓wp_none, wp_ite, ↓wp_cl, ↓wp_rz, ↓wp_nz, ↓wp_nzL, ↓wp_fI, ↓wp_fL, ↓wp_fR, ↓wp_pI, ↓wp_pL, ↓wp_pR, ↓wp_pZ, ↓wp_aI, ↓wp_aL, ↓wp_aR, ↓wp_bI, ↓wp_bL, ↓wp_bR, ↓wp_rO, ↓wp_cO, ↓wp_nO, ↓wp_iO, ↓wp_tbI, ↓wp_tbL, ↓wp_jn, q_okT, q_okA, q_gI, q_gL, q_gR, q_sI, q_sL, q_sR, q_SI, q_SL, q_SR, q_II, q_IL, q_IR, q_LI, q_LL, q_LR, q_RI, q_RL, q_RR, List.contains_cons, List.contains_nil, Nat.reduceBEq, Nat.reduceEqDiff, beq_self_eq_true, Bool.or_false, Bool.false_or, Bool.true_or, Bool.or_true, Bool.and_true, Bool.true_and, Bool.false_and, Bool.and_false, if_true, if_false, Bool.false_eq_true, true_and, and_true, false_and, and_false, and_self, not_true, not_false_iff, reduceCtorEq, forall_const, false_imp_iff, true_imp_iff, true_or, or_true, false_or, or_false, s5, o10, o11, wp_use cx, wp_use cy, wp_use (t_X5_isWithin _ _ _), c1]
    exact ⟨C, a13, a14, a0, a1, a2⟩
