/-! solve: the class's riddle -/
def Cx (o : Nat) (h h' : AH) : Prop := hS h' = hS h ∧ hR h' = hR h ∧ (∀ a k, ¬ ((a = o ∧ (k = 0 ∨ k = 1 ∨ k = 13 ∨ k = 14)) ∨ a = o + 6) → hI h' a k = hI h a k) ∧ (∀ a k, ¬ (a = o ∧ k = 2) → hL h' a k = hL h a k)
theorem Cx.refl (o : Nat) (h : AH) : Cx o h h := ⟨rfl, rfl, fun _ _ _ => rfl, fun _ _ _ => rfl⟩
theorem Cx.trans {o : Nat} {h h1 h2 : AH} (a : Cx o h h1) (b : Cx o h1 h2) : Cx o h h2 := ⟨b.1.trans a.1, b.2.1.trans a.2.1, fun x k e => (b.2.2.1 x k e).trans (a.2.2.1 x k e), fun x k e => (b.2.2.2 x k e).trans (a.2.2.2 x k e)⟩
theorem Cx.wI {o : Nat} {h h1 : AH} (s : Cx o h h1) (a k : Nat) (v : Int32) (e : (a = o ∧ (k = 0 ∨ k = 1 ∨ k = 13 ∨ k = 14)) ∨ a = o + 6) : Cx o h (wI h1 a k v) := by
  refine ⟨s.1, s.2.1, fun x j z => ?_, s.2.2.2⟩
  rw [q_II, if_neg, s.2.2.1 x j z]
  rintro ⟨rfl, rfl⟩
  exact z e
theorem Cx.wL {o : Nat} {h h1 : AH} (s : Cx o h h1) (v : Int64) : Cx o h (wL h1 o 2 v) := by
  refine ⟨s.1, s.2.1, s.2.2.1, fun x j z => ?_⟩
  rw [q_LL, if_neg, s.2.2.2 x j z]
  exact z
theorem Cx.SM {o : Nat} {h h1 : AH} (s : Cx o h h1) (ho : 107 ≤ o) : SM h h1 := ⟨fun a k _ h3 => s.2.2.1 a k (by omega), fun a k _ h3 => s.2.2.2 a k (by omega)⟩
theorem RC.cx {h h' w : AH} {P : Nat → Prog} {ad : Nat → Nat} (R : RC h w P ad) {b0 : Nat} (hb0 : b0 < nB w) (hk0 : hI w 51 b0 = 2 ∨ hI w 51 b0 = 5) (C : Cx (ad b0 + 4) h h') : RC h' w P ad := by
  have h107 := ad_ge R.B.1 (show b0 ≤ nB w by omega)
  have b11 := blkR hk0
  have g : ∀ b, b < nB w → ∀ i, i < blk (hI w 51 b) → ∀ j, ¬ (b = b0 ∧ ((i = 4 ∧ (j = 0 ∨ j = 1 ∨ j = 13 ∨ j = 14)) ∨ i = 10)) → hI h' (ad b + i) j = hI h (ad b + i) j := fun b hb i hi j nh => by
    refine C.2.2.1 _ _ (fun y => ?_)
    by_cases z : b = b0
    · subst z
      rcases y with ⟨e, ej⟩ | e
      · exact nh ⟨rfl, Or.inl ⟨by omega, ej⟩⟩
      · exact nh ⟨rfl, Or.inr (by omega)⟩
    · rcases y with ⟨e, ej⟩ | e
      · exact ad_ne R.B.1 hb hb0 z hi (j := 4) (by omega) e
      · exact ad_ne R.B.1 hb hb0 z hi (j := 10) (by omega) (by omega)
  have g4 : ∀ b, b < nB w → ∀ i, i < 4 → i < blk (hI w 51 b) → ∀ j, hI h' (ad b + i) j = hI h (ad b + i) j := fun b hb i h4 hi j => g b hb i hi j (by omega)
  have g0 : ∀ b, b < nB w → ∀ j, hI h' (ad b) j = hI h (ad b) j := fun b hb j => g4 b hb 0 (by omega) (blk_pos _) j
  have lo : ∀ a, a < 107 → hI h' a = hI h a := fun a ha => funext fun k => C.2.2.1 a k (by omega)
  have loL : ∀ a, a < 107 → hL h' a = hL h a := fun a ha => funext fun k => C.2.2.2 a k (by omega)
  have l : Lay h' := ⟨fun a ha => by rw [C.1]; exact R.l.1 a ha, fun q hq => by rw [C.2.1]; exact R.l.2 q hq⟩
  have O : RO h' w P ad := R.o.hc (fun a ha => lo a (by omega)) (fun a ha => loL a (by omega)) (fun a ha => by rw [C.2.1])
  have B := R.B
  refine RC.of l O ⟨⟨B.1.1, by rw [C.1]; exact B.1.2.1, by rw [lo 1 (by omega)]; exact B.1.2.2.1, fun b hb => ?_⟩, fun b hb hk7 => ?_, fun b hb hkb => ?_, fun b hb hkb => ?_, fun b hb hk6 => ?_⟩ ?_
  · rw [C.1, C.2.1, g0 b hb 0, g0 b hb 1]; exact B.1.2.2.2 b hb
  · simp only [g0 b hb]; exact B.2.1 b hb hk7
  · simp only [g0 b hb]; exact B.2.2.1 b hb hkb
  · have b4 := blk_box hkb
    have this := B.2.2.2.1 b hb hkb
    exact ⟨fun i h1 h2 => by rw [g4 b hb 1 (by omega) (by omega)]; exact this.1 i h1 h2, fun i h1 h2 => by rw [g4 b hb 2 (by omega) (by omega)]; exact this.2.1 i h1 h2, fun i h1 h2 => by rw [g4 b hb 3 (by omega) (by omega)]; exact this.2.2 i h1 h2⟩
  · have b3 : blk (hI w 51 b) = 3 := by rw [hk6]; decide
    have this := B.2.2.2.2 b hb hk6
    rw [g0 b hb]
    exact ⟨this.1, fun i h1 h2 => by rw [g4 b hb 1 (by omega) (by omega), g4 b hb 2 (by omega) (by omega)]; exact this.2 i h1 h2⟩
  · intro b hb hk
    have bb := blkR hk
    have old := R.dd b hb hk
    rw [g b hb 4 (by omega) 8 (by omega), g b hb 4 (by omega) 9 (by omega), g b hb 4 (by omega) 10 (by omega), g b hb 4 (by omega) 11 (by omega)]
    refine ⟨old.1, old.2.1, old.2.2.1, old.2.2.2.1, fun i hi h2 => ?_⟩
    rw [g b hb 5 (by omega) i (by omega), g b hb 6 (by omega) i (by omega), g b hb 7 (by omega) i (by omega), g b hb 8 (by omega) i (by omega), g b hb 9 (by omega) i (by omega)]
    exact old.2.2.2.2 i hi h2
theorem RB.s10 {h w : AH} {ad : Nat → Nat} (B : RB h w ad) {b : Nat} (hb : b < nB w) (hk : hI w 51 b = 2 ∨ hI w 51 b = 5) : (hS h)[ad b + 10]? = some (20, 6) := by
  have bb := blkR hk
  rw [(B.1.2.2.2 b hb).2.2.2.2.1 10 (by omega)]
  rcases hk with e | e <;> rw [e] <;> decide
theorem RC.kt {h w : AH} {P : Nat → Prog} {ad : Nat → Nat} (R : RC h w P ad) {b m kx ky : Nat} (hb : b < nB w) (hk : hI w 51 b = 2 ∨ hI w 51 b = 5) (T : TelW w b m kx ky) (em : hI w 80 b = nI m) (e4 : told_ w b 4 = some kx) (e5 : told_ w b 5 = some ky) : hI h (ad b + 4) 8 = nI m ∧ hI h (ad b + 4) 9 = letters_ w b ∧ hI h (ad b + 4) 10 = nI kx ∧ hI h (ad b + 4) 11 = nI ky ∧ ∀ k, k < m → hI h (ad b + 5) k = hI w 81 (8 * b + k) ∧ hI h (ad b + 6) k = hI w 82 (8 * b + k) ∧ (hI w 81 (8 * b + k) ≤ 2 → hI h (ad b + 7) k = hI w 83 (8 * b + k)) ∧ hI h (ad b + 8) k = hI w 84 (8 * b + k) ∧ hI h (ad b + 9) k = (if hI w 81 (8 * b + k) ≤ 2 then (if hI w 82 (8 * b + k) < hI w 83 (8 * b + k) then hI w 83 (8 * b + k) else hI w 82 (8 * b + k)) else hI w 82 (8 * b + k)) := by
  have old := R.dd b hb hk
  have h8 := T.1
  rw [em, e4, e5] at old
  exact ⟨old.1, old.2.1, old.2.2.1, old.2.2.2.1, fun k hk => old.2.2.2.2 k (by omega) (by rw [nI_ltI (by omega) (by omega)]; exact hk)⟩
theorem t_X5_isWithin (v z : Int32) (h : AH) : wp (f_X5_isWithin v z h) (fun r h' => r = (if 0 ≤ v ∧ v < z then 1 else 0) ∧ h' = h) := by
  unfold f_X5_isWithin
  by_cases c : v < 0
  · have : ¬ (0 ≤ v ∧ v < z) := fun q => absurd c (Int32.not_lt.mpr q.1)
    simp (config := {decide := true, maxSteps := 5000000}) (disch := omega) only [↓reduceIte, ↓wp_some, ↓wp_none, wp_ite, ↓wp_cl, ↓wp_rz, ↓wp_nz, ↓wp_nzL, ↓wp_fI, ↓wp_fL, ↓wp_fR, ↓wp_pI, ↓wp_pL, ↓wp_pR, ↓wp_pZ, ↓wp_aI, ↓wp_aL, ↓wp_aR, ↓wp_bI, ↓wp_bL, ↓wp_bR, ↓wp_rO, ↓wp_cO, ↓wp_nO, ↓wp_iO, ↓wp_tbI, ↓wp_tbL, ↓wp_jn, q_okT, q_okA, q_gI, q_gL, q_gR, q_sI, q_sL, q_sR, q_SI, q_SL, q_SR, q_IL, q_IR, q_LI, q_LR, q_RI, q_RL, List.contains_cons, List.contains_nil, Nat.reduceBEq, Nat.reduceEqDiff, beq_self_eq_true, Bool.or_false, Bool.false_or, Bool.true_or, Bool.or_true, Bool.and_true, Bool.true_and, Bool.false_and, Bool.and_false, if_true, if_false, Bool.false_eq_true, true_and, and_true, false_and, and_false, and_self, not_true, not_false_iff, reduceCtorEq, forall_const, false_imp_iff, true_imp_iff, true_or, or_true, false_or, or_false, c, this]
  · by_cases d : z ≤ v
    · have : ¬ (0 ≤ v ∧ v < z) := fun q => absurd d (Int32.not_le.mpr q.2)
      simp (config := {decide := true, maxSteps := 5000000}) (disch := omega) only [↓reduceIte, ↓wp_some, ↓wp_none, wp_ite, ↓wp_cl, ↓wp_rz, ↓wp_nz, ↓wp_nzL, ↓wp_fI, ↓wp_fL, ↓wp_fR, ↓wp_pI, ↓wp_pL, ↓wp_pR, ↓wp_pZ, ↓wp_aI, ↓wp_aL, ↓wp_aR, ↓wp_bI, ↓wp_bL, ↓wp_bR, ↓wp_rO, ↓wp_cO, ↓wp_nO, ↓wp_iO, ↓wp_tbI, ↓wp_tbL, ↓wp_jn, q_okT, q_okA, q_gI, q_gL, q_gR, q_sI, q_sL, q_sR, q_SI, q_SL, q_SR, q_IL, q_IR, q_LI, q_LR, q_RI, q_RL, List.contains_cons, List.contains_nil, Nat.reduceBEq, Nat.reduceEqDiff, beq_self_eq_true, Bool.or_false, Bool.false_or, Bool.true_or, Bool.or_true, Bool.and_true, Bool.true_and, Bool.false_and, Bool.and_false, if_true, if_false, Bool.false_eq_true, true_and, and_true, false_and, and_false, and_self, not_true, not_false_iff, reduceCtorEq, forall_const, false_imp_iff, true_imp_iff, true_or, or_true, false_or, or_false, c, d, this]
    · have : 0 ≤ v ∧ v < z := ⟨Int32.not_lt.mp c, Int32.not_le.mp d⟩
      simp (config := {decide := true, maxSteps := 5000000}) (disch := omega) only [↓reduceIte, ↓wp_some, ↓wp_none, wp_ite, ↓wp_cl, ↓wp_rz, ↓wp_nz, ↓wp_nzL, ↓wp_fI, ↓wp_fL, ↓wp_fR, ↓wp_pI, ↓wp_pL, ↓wp_pR, ↓wp_pZ, ↓wp_aI, ↓wp_aL, ↓wp_aR, ↓wp_bI, ↓wp_bL, ↓wp_bR, ↓wp_rO, ↓wp_cO, ↓wp_nO, ↓wp_iO, ↓wp_tbI, ↓wp_tbL, ↓wp_jn, q_okT, q_okA, q_gI, q_gL, q_gR, q_sI, q_sL, q_sR, q_SI, q_SL, q_SR, q_IL, q_IR, q_LI, q_LR, q_RI, q_RL, List.contains_cons, List.contains_nil, Nat.reduceBEq, Nat.reduceEqDiff, beq_self_eq_true, Bool.or_false, Bool.false_or, Bool.true_or, Bool.or_true, Bool.and_true, Bool.true_and, Bool.false_and, Bool.and_false, if_true, if_false, Bool.false_eq_true, true_and, and_true, false_and, and_false, and_self, not_true, not_false_iff, reduceCtorEq, forall_const, false_imp_iff, true_imp_iff, true_or, or_true, false_or, or_false, c, d, this]
theorem t_X5_digitOf {h w : AH} {P : Nat → Prog} {ad : Nat → Nat} (R : RC h w P ad) {b : Nat} (hb : b < nB w) (hk : hI w 51 b = 2 ∨ hI w 51 b = 5) {x : Nat} (hx : x < 6) : wp (f_X5_digitOf (some (ad b + 4)) (nI x) h) (fun r h' => r = hI h (ad b + 10) x ∧ h' = h) := by
  obtain ⟨-, s5, ⟨-, -, -, -, -, r12⟩, -⟩ := R.B.rr hb hk
  have s10 := R.B.s10 hb hk
  have x0 : ¬ nI x < 0 := nI_pos (by omega)
  have x6 : nI x < 6 := by rw [show (6 : Int32) = nI 6 from rfl, nI_ltI (by omega) (by omega)]; exact hx
  have cx : (nI x).toNatClampNeg = x := nI_clamp (by omega)
  unfold f_X5_digitOf
  simp (config := {decide := true, maxSteps := 5000000}) (disch := omega) only [↓reduceIte, ↓wp_some, ↓wp_none, wp_ite, ↓wp_cl, ↓wp_rz, ↓wp_nz, ↓wp_nzL, ↓wp_fI, ↓wp_fL, ↓wp_fR, ↓wp_pI, ↓wp_pL, ↓wp_pR, ↓wp_pZ, ↓wp_aI, ↓wp_aL, ↓wp_aR, ↓wp_bI, ↓wp_bL, ↓wp_bR, ↓wp_rO, ↓wp_cO, ↓wp_nO, ↓wp_iO, ↓wp_tbI, ↓wp_tbL, ↓wp_jn, q_okT, q_okA, q_gI, q_gL, q_gR, q_sI, q_sL, q_sR, q_SI, q_SL, q_SR, q_IL, q_IR, q_LI, q_LR, q_RI, q_RL, List.contains_cons, List.contains_nil, Nat.reduceBEq, Nat.reduceEqDiff, beq_self_eq_true, Bool.or_false, Bool.false_or, Bool.true_or, Bool.or_true, Bool.and_true, Bool.true_and, Bool.false_and, Bool.and_false, if_true, if_false, Bool.false_eq_true, true_and, and_true, false_and, and_false, and_self, not_true, not_false_iff, reduceCtorEq, forall_const, false_imp_iff, true_imp_iff, true_or, or_true, false_or, or_false, s5, s10, r12, x0, x6, cx, nI_neg, dle, decide_false, Bool.not_false]
theorem t_X5_coordinate {h w : AH} {P : Nat → Prog} {ad : Nat → Nat} (R : RC h w P ad) {b m kx ky : Nat} (hb : b < nB w) (hk : hI w 51 b = 2 ∨ hI w 51 b = 5) (T : TelW w b m kx ky) (em : hI w 80 b = nI m) (e4 : told_ w b 4 = some kx) (e5 : told_ w b 5 = some ky) {k : Nat} (hkm : k < m) : wp (f_X5_coordinate (some (ad b + 4)) (nI k) h) (fun r h' => r = coord_ w b (hI h (ad b + 10)) k ∧ h' = h) := by
  obtain ⟨-, s5, ⟨r3, r4, r5, r6, r7, r12⟩, s8⟩ := R.B.rr hb hk
  obtain ⟨o8, o9, o10, o11, rows⟩ := R.kt hb hk T em e4 e5
  obtain ⟨q5, q6, q7, q8, q9⟩ := rows k hkm
  have h8 := T.1
  have s6 := s8 6 (by omega) (by omega)
  have s88 := s8 8 (by omega) (by omega)
  have x0 : ¬ nI k < 0 := nI_pos (by omega)
  have x8 : nI k < 8 := by rw [show (8 : Int32) = nI 8 from rfl, nI_ltI (by omega) (by omega)]; omega
  have cx : (nI k).toNatClampNeg = k := nI_clamp (by omega)
  obtain ⟨-, ⟨f, hf, ef⟩, -⟩ := tel_one (T.2.1 k hkm)
  rw [ef] at q6
  unfold f_X5_coordinate coord_ dD
  rw [ef]
  have cf : (nI f).toNatClampNeg = f := nI_clamp (by omega)
  by_cases c6 : f = 6
  · have e6 : nI f = 6 := by rw [c6]; rfl
    simp (config := {decide := true, maxSteps := 5000000}) (disch := omega) only [↓reduceIte, ↓wp_some, ↓wp_none, wp_ite, ↓wp_cl, ↓wp_rz, ↓wp_nz, ↓wp_nzL, ↓wp_fI, ↓wp_fL, ↓wp_fR, ↓wp_pI, ↓wp_pL, ↓wp_pR, ↓wp_pZ, ↓wp_aI, ↓wp_aL, ↓wp_aR, ↓wp_bI, ↓wp_bL, ↓wp_bR, ↓wp_rO, ↓wp_cO, ↓wp_nO, ↓wp_iO, ↓wp_tbI, ↓wp_tbL, ↓wp_jn, q_okT, q_okA, q_gI, q_gL, q_gR, q_sI, q_sL, q_sR, q_SI, q_SL, q_SR, q_IL, q_IR, q_LI, q_LR, q_RI, q_RL, List.contains_cons, List.contains_nil, Nat.reduceBEq, Nat.reduceEqDiff, beq_self_eq_true, Bool.or_false, Bool.false_or, Bool.true_or, Bool.or_true, Bool.and_true, Bool.true_and, Bool.false_and, Bool.and_false, if_true, if_false, Bool.false_eq_true, true_and, and_true, false_and, and_false, and_self, not_true, not_false_iff, reduceCtorEq, forall_const, false_imp_iff, true_imp_iff, true_or, or_true, false_or, or_false, s5, s6, s88, r4, r6, x0, x8, cx, q6, q8, eq_true e6, nI_neg, dle, decide_false, Bool.not_false]
  · have e6 : ¬ nI f = 6 := by rw [show (6 : Int32) = nI 6 from rfl, nI_eq (by omega) (by omega)]; exact c6
    have dg := t_X5_digitOf R hb hk (x := f) (by omega)
    simp (config := {decide := true, maxSteps := 5000000}) (disch := omega) only [↓reduceIte, ↓wp_some, ↓wp_none, wp_ite, ↓wp_cl, ↓wp_rz, ↓wp_nz, ↓wp_nzL, ↓wp_fI, ↓wp_fL, ↓wp_fR, ↓wp_pI, ↓wp_pL, ↓wp_pR, ↓wp_pZ, ↓wp_aI, ↓wp_aL, ↓wp_aR, ↓wp_bI, ↓wp_bL, ↓wp_bR, ↓wp_rO, ↓wp_cO, ↓wp_nO, ↓wp_iO, ↓wp_tbI, ↓wp_tbL, ↓wp_jn, q_okT, q_okA, q_gI, q_gL, q_gR, q_sI, q_sL, q_sR, q_SI, q_SL, q_SR, q_IL, q_IR, q_LI, q_LR, q_RI, q_RL, List.contains_cons, List.contains_nil, Nat.reduceBEq, Nat.reduceEqDiff, beq_self_eq_true, Bool.or_false, Bool.false_or, Bool.true_or, Bool.or_true, Bool.and_true, Bool.true_and, Bool.false_and, Bool.and_false, if_true, if_false, Bool.false_eq_true, true_and, and_true, false_and, and_false, and_self, not_true, not_false_iff, reduceCtorEq, forall_const, false_imp_iff, true_imp_iff, true_or, or_true, false_or, or_false, s5, s6, s88, r4, r6, x0, x8, cx, q6, q8, e6, wp_use dg, cf, nI_neg, dle, decide_false, Bool.not_false]
/-- what the class asks of a telling -/
def holdsC (w : AH) (b kx ky : Nat) (D : Dg) (k : Nat) : Bool := if hI w 81 (8 * b + k) < 4 then hold_ w b D k else if hI w 81 (8 * b + k) = 4 then !decide (k = kx) || in_ (coord_ w b D k) 9 else !decide (k = ky) || in_ (coord_ w b D k) 5
theorem in_9 (v : Int32) : in_ v 9 = decide (0 ≤ v ∧ v < 10) := by unfold in_; congr 1; grind
theorem in_5 (v : Int32) : in_ v 5 = decide (0 ≤ v ∧ v < 6) := by unfold in_; congr 1; grind
