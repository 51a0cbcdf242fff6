/-! solve: the class's search, whole -/
def SeaK (h w : AH) (ad : Nat → Nat) (b m kx ky wt t f : Nat) : Prop := ∀ (x k u : Nat) (a : Acc) (hh : AH) (sf : Int32), f + t + x = 6 → (t = 1 → inL w b m x = true) → 2 * f + 2 + t ≤ k → u < 1024 → StS h hh (ad b + 4) wt a → a.1 < wt → okBelow w b m kx ky x (hI hh (ad b + 10)) → wp (G_X5_search k t (some (ad b + 4)) (nI x) (nI u) sf hh) (fun _ h' => StS h h' (ad b + 4) wt ((solL (inL w b m) (okS w b m kx ky) (celA w b kx ky) (f + t) x u (hI hh (ad b + 10)) sf).foldl (stepC wt) a) ∧ ∀ j, j < x → hI h' (ad b + 10) j = hI hh (ad b + 10) j)
set_option maxHeartbeats 4000000 in
theorem t_seaS {h w : AH} {P : Nat → Prog} {ad : Nat → Nat} (R : RC h w P ad) {b m kx ky : Nat} (hb : b < nB w) (hk : hI w 51 b = 2 ∨ hI w 51 b = 5) (T : TelW w b m kx ky) (em : hI w 80 b = nI m) (e4 : told_ w b 4 = some kx) (e5 : told_ w b 5 = some ky) {wt f : Nat} (IH : ∀ g, g < f → SeaK h w ad b m kx ky wt 1 g) : SeaK h w ad b m kx ky wt 0 f := by
  rintro x k u a hh sf hx - hk2 hu S ha ob
  obtain ⟨k, rfl⟩ : ∃ k', k = k' + 1 := ⟨k - 1, by omega⟩
  rw [eq_G_X5_search, if_pos rfl]
  unfold fb_X5_search
  have R1 := R.cx hb hk S.1
  obtain ⟨-, s5, -, -⟩ := R1.B.rr hb hk
  obtain ⟨o8, o9, o10, o11, -⟩ := R1.kt hb hk T em e4 e5
  rw [show f + 0 = f from rfl]
  refine wp_g1 f (fun i y => y = nI (x + i) ∧ solL (inL w b m) (okS w b m kx ky) (celA w b kx ky) f x u (hI hh (ad b + 10)) sf = solL (inL w b m) (okS w b m kx ky) (celA w b kx ky) (f - i) (x + i) u (hI hh (ad b + 10)) sf ∧ okBelow w b m kx ky (x + i) (hI hh (ad b + 10))) ⟨rfl, rfl, ob⟩ (by omega) ?_ ?_
  · rintro G y ⟨rfl, e, ob⟩
    rw [e]
    have z6 : x + f = 6 := by omega
    rw [z6] at ob ⊢
    rw [Nat.sub_self]
    have g6 : (6 : Int32) ≤ nI 6 := by decide
    have mt := t_X5_meet R hb hk T em e4 e5 sf S ha (okBelow_6 T ob)
    unfold solL
    simp (config := {decide := true, maxSteps := 5000000}) (disch := omega) only [↓reduceIte, ↓wp_some, ↓wp_none, wp_ite, ↓wp_cl, ↓wp_rz, ↓wp_nz, ↓wp_nzL, ↓wp_fI, ↓wp_fL, ↓wp_fR, ↓wp_pI, ↓wp_pL, ↓wp_pR, ↓wp_pZ, ↓wp_aI, ↓wp_aL, ↓wp_aR, ↓wp_bI, ↓wp_bL, ↓wp_bR, ↓wp_rO, ↓wp_cO, ↓wp_nO, ↓wp_iO, ↓wp_tbI, ↓wp_tbL, ↓wp_jn, q_okT, q_okA, q_gI, q_gL, q_gR, q_sI, q_sL, q_sR, q_SI, q_SL, q_SR, q_IL, q_IR, q_LI, q_LR, q_RI, q_RL, List.contains_cons, List.contains_nil, Nat.reduceBEq, Nat.reduceEqDiff, beq_self_eq_true, Bool.or_false, Bool.false_or, Bool.true_or, Bool.or_true, Bool.and_true, Bool.true_and, Bool.false_and, Bool.and_false, if_true, if_false, Bool.false_eq_true, true_and, and_true, false_and, and_false, and_self, not_true, not_false_iff, reduceCtorEq, forall_const, false_imp_iff, true_imp_iff, true_or, or_true, false_or, or_false, g6, s5]
    refine wp_mono mt ?_
    rintro _ h' ⟨q1, q2⟩
    exact ⟨q1, fun j _ => by rw [q2]⟩
  · rintro G i y hi ⟨rfl, e, ob⟩ ih
    have g6 : ¬ (6 : Int32) ≤ nI (x + i) := by rw [show (6 : Int32) = nI 6 from rfl, nI_leI (by omega) (by omega)]; omega
    have ej : nI (x + i) + 1 = nI (x + (i + 1)) := nI_add _ 1
    have lb := letters_bit T em (x := x + i) (by omega)
    by_cases c : inL w b m (x + i) = true
    · rw [if_pos c] at lb
      have t := IH (f - i - 1) (by omega) (x + i) k u a hh sf (by omega) (fun _ => c) (by omega) hu S ha ob
      rw [e]
      have ef : f - i - 1 + 1 = f - i := by omega
      rw [ef] at t
      simp (config := {decide := true, maxSteps := 5000000}) (disch := omega) only [↓reduceIte, ↓wp_some, ↓wp_none, wp_ite, ↓wp_cl, ↓wp_rz, ↓wp_nz, ↓wp_nzL, ↓wp_fI, ↓wp_fL, ↓wp_fR, ↓wp_pI, ↓wp_pL, ↓wp_pR, ↓wp_pZ, ↓wp_aI, ↓wp_aL, ↓wp_aR, ↓wp_bI, ↓wp_bL, ↓wp_bR, ↓wp_rO, ↓wp_cO, ↓wp_nO, ↓wp_iO, ↓wp_tbI, ↓wp_tbL, ↓wp_jn, q_okT, q_okA, q_gI, q_gL, q_gR, q_sI, q_sL, q_sR, q_SI, q_SL, q_SR, q_IL, q_IR, q_LI, q_LR, q_RI, q_RL, List.contains_cons, List.contains_nil, Nat.reduceBEq, Nat.reduceEqDiff, beq_self_eq_true, Bool.or_false, Bool.false_or, Bool.true_or, Bool.or_true, Bool.and_true, Bool.true_and, Bool.false_and, Bool.and_false, if_true, if_false, Bool.false_eq_true, true_and, and_true, false_and, and_false, and_self, not_true, not_false_iff, reduceCtorEq, forall_const, false_imp_iff, true_imp_iff, true_or, or_true, false_or, or_false, s5, g6, o9, lb]
      refine wp_mono t ?_
      rintro _ h' ⟨q1, q2⟩
      exact ⟨q1, fun j hj => q2 j (by omega)⟩
    · rw [if_neg c] at lb
      have go := ih (nI (x + (i + 1))) ⟨rfl, ?_, ?_⟩
      · simp (config := {decide := true, maxSteps := 5000000}) (disch := omega) only [↓reduceIte, ↓wp_some, ↓wp_none, wp_ite, ↓wp_cl, ↓wp_rz, ↓wp_nz, ↓wp_nzL, ↓wp_fI, ↓wp_fL, ↓wp_fR, ↓wp_pI, ↓wp_pL, ↓wp_pR, ↓wp_pZ, ↓wp_aI, ↓wp_aL, ↓wp_aR, ↓wp_bI, ↓wp_bL, ↓wp_bR, ↓wp_rO, ↓wp_cO, ↓wp_nO, ↓wp_iO, ↓wp_tbI, ↓wp_tbL, ↓wp_jn, q_okT, q_okA, q_gI, q_gL, q_gR, q_sI, q_sL, q_sR, q_SI, q_SL, q_SR, q_IL, q_IR, q_LI, q_LR, q_RI, q_RL, List.contains_cons, List.contains_nil, Nat.reduceBEq, Nat.reduceEqDiff, beq_self_eq_true, Bool.or_false, Bool.false_or, Bool.true_or, Bool.or_true, Bool.and_true, Bool.true_and, Bool.false_and, Bool.and_false, if_true, if_false, Bool.false_eq_true, true_and, and_true, false_and, and_false, and_self, not_true, not_false_iff, reduceCtorEq, forall_const, false_imp_iff, true_imp_iff, true_or, or_true, false_or, or_false, s5, g6, o9, lb, ej]
        exact go
      · rw [e]
        have ef : f - i = (f - (i + 1)) + 1 := by omega
        rw [ef, solL_s, if_neg c]; rfl
      · intro k hk l hl el
        by_cases z : l = x + i
        · obtain ⟨l', h1, h2, h3, -⟩ := lst_x T hk
          have : l' = l := by rw [h2, nI_eq (by omega) (by omega)] at el; exact el
          subst this
          rw [z] at h3
          exact absurd (h3 (by omega)).1 c
        · exact ob k hk l (by omega) el
set_option maxHeartbeats 4000000 in
theorem t_seaT {h w : AH} {P : Nat → Prog} {ad : Nat → Nat} (R : RC h w P ad) {b m kx ky : Nat} (hb : b < nB w) (hk : hI w 51 b = 2 ∨ hI w 51 b = 5) (T : TelW w b m kx ky) (em : hI w 80 b = nI m) (e4 : told_ w b 4 = some kx) (e5 : told_ w b 5 = some ky) {wt f : Nat} (hwt : wt < 2 ^ 31) (IH : SeaK h w ad b m kx ky wt 0 f) : SeaK h w ad b m kx ky wt 1 f := by
  rintro x k u a hh sf hx hc hk2 hu S ha ob
  have c := hc rfl
  obtain ⟨k, rfl⟩ : ∃ k', k = k' + 1 := ⟨k - 1, by omega⟩
  rw [eq_G_X5_search, if_neg (by decide)]
  unfold fb_X5_tryDigits
  have e1 : nI x + 1 = nI (x + 1) := nI_add _ 1
  have cx : (nI x).toNatClampNeg = x := nI_clamp (by omega)
  rw [solL_s, if_pos c, flatMap_10]
  have wl : ∀ (L : List (Int32 × Int32)) (A : Acc), A.1 ≤ wt → (L.foldl (stepC wt) A).1 ≤ wt := fun L A => stepC_le L A
  refine wp_g2 10 (fun d y h3 => y = nI d ∧ (foldN (fun d a => (if u.testBit d = true then [] else solL (inL w b m) (okS w b m kx ky) (celA w b kx ky) f (x + 1) (u ||| 2 ^ d) (setD (hI hh (ad b + 10)) x (nI d)) (10 * sf + nI d)).foldl (stepC wt) a) a d).1 ≤ wt ∧ StS h h3 (ad b + 4) wt (foldN (fun d a => (if u.testBit d = true then [] else solL (inL w b m) (okS w b m kx ky) (celA w b kx ky) f (x + 1) (u ||| 2 ^ d) (setD (hI hh (ad b + 10)) x (nI d)) (10 * sf + nI d)).foldl (stepC wt) a) a d) ∧ ∀ j, j < x → hI h3 (ad b + 10) j = hI hh (ad b + 10) j) ⟨rfl, by show a.1 ≤ wt; omega, S, fun _ _ => rfl⟩ (by omega) ?_ ?_
  · rintro G y h3 ⟨rfl, -, S3, K3⟩
    have g10 : (10 : Int32) ≤ nI 10 := by decide
    simp (config := {decide := true, maxSteps := 5000000}) (disch := omega) only [↓reduceIte, ↓wp_some, ↓wp_none, wp_ite, ↓wp_cl, ↓wp_rz, ↓wp_nz, ↓wp_nzL, ↓wp_fI, ↓wp_fL, ↓wp_fR, ↓wp_pI, ↓wp_pL, ↓wp_pR, ↓wp_pZ, ↓wp_aI, ↓wp_aL, ↓wp_aR, ↓wp_bI, ↓wp_bL, ↓wp_bR, ↓wp_rO, ↓wp_cO, ↓wp_nO, ↓wp_iO, ↓wp_tbI, ↓wp_tbL, ↓wp_jn, q_okT, q_okA, q_gI, q_gL, q_gR, q_sI, q_sL, q_sR, q_SI, q_SL, q_SR, q_IL, q_IR, q_LI, q_LR, q_RI, q_RL, List.contains_cons, List.contains_nil, Nat.reduceBEq, Nat.reduceEqDiff, beq_self_eq_true, Bool.or_false, Bool.false_or, Bool.true_or, Bool.or_true, Bool.and_true, Bool.true_and, Bool.false_and, Bool.and_false, if_true, if_false, Bool.false_eq_true, true_and, and_true, false_and, and_false, and_self, not_true, not_false_iff, reduceCtorEq, forall_const, false_imp_iff, true_imp_iff, true_or, or_true, false_or, or_false, g10]
    exact ⟨S3, K3⟩
  · rintro G d y h3 hd ⟨rfl, L3, S3, K3⟩ go
    have g10 : ¬ (10 : Int32) ≤ nI d := by rw [show (10 : Int32) = nI 10 from rfl, nI_leI (by omega) (by omega)]; omega
    have R3 := R.cx hb hk S3.1
    obtain ⟨-, s5, ⟨-, -, -, -, -, r12⟩, -⟩ := R3.B.rr hb hk
    have s10 := R3.B.s10 hb hk
    have ed : nI d + 1 = nI (d + 1) := nI_add _ 1
    have bt := bit_t10 u hu d hd
    have go := go (nI (d + 1))
    simp only [foldN_S] at go
    have fx := foldN_fix (g := fun d a => (if u.testBit d = true then [] else solL (inL w b m) (okS w b m kx ky) (celA w b kx ky) f (x + 1) (u ||| 2 ^ d) (setD (hI hh (ad b + 10)) x (nI d)) (10 * sf + nI d)).foldl (stepC wt) a) (a := a) (d := d)
    generalize foldN (fun d a => (if u.testBit d = true then [] else solL (inL w b m) (okS w b m kx ky) (celA w b kx ky) f (x + 1) (u ||| 2 ^ d) (setD (hI hh (ad b + 10)) x (nI d)) (10 * sf + nI d)).foldl (stepC wt) a) a d = A at S3 L3 go fx
    have a13 := S3.2.1
    have a14 := S3.2.2.1
    by_cases done : wt ≤ A.1
    · have dn : nI wt ≤ nI A.1 := by rw [nI_leI (by omega) (by omega)]; exact done
      rw [fx (fun k _ => stepC_done done _) 10 (by omega)]
      simp (config := {decide := true, maxSteps := 5000000}) (disch := omega) only [↓reduceIte, ↓wp_some, ↓wp_none, wp_ite, ↓wp_cl, ↓wp_rz, ↓wp_nz, ↓wp_nzL, ↓wp_fI, ↓wp_fL, ↓wp_fR, ↓wp_pI, ↓wp_pL, ↓wp_pR, ↓wp_pZ, ↓wp_aI, ↓wp_aL, ↓wp_aR, ↓wp_bI, ↓wp_bL, ↓wp_bR, ↓wp_rO, ↓wp_cO, ↓wp_nO, ↓wp_iO, ↓wp_tbI, ↓wp_tbL, ↓wp_jn, q_okT, q_okA, q_gI, q_gL, q_gR, q_sI, q_sL, q_sR, q_SI, q_SL, q_SR, q_IL, q_IR, q_LI, q_LR, q_RI, q_RL, List.contains_cons, List.contains_nil, Nat.reduceBEq, Nat.reduceEqDiff, beq_self_eq_true, Bool.or_false, Bool.false_or, Bool.true_or, Bool.or_true, Bool.and_true, Bool.true_and, Bool.false_and, Bool.and_false, if_true, if_false, Bool.false_eq_true, true_and, and_true, false_and, and_false, and_self, not_true, not_false_iff, reduceCtorEq, forall_const, false_imp_iff, true_imp_iff, true_or, or_true, false_or, or_false, s5, g10, a13, a14, dn]
      exact ⟨S3, K3⟩
    · have dn : ¬ nI wt ≤ nI A.1 := by rw [nI_leI (by omega) (by omega)]; exact done
      clear fx
      by_cases t : u.testBit d = true
      · rw [if_pos t] at bt go
        simp (config := {decide := true, maxSteps := 5000000}) (disch := omega) only [↓reduceIte, ↓wp_some, ↓wp_none, wp_ite, ↓wp_cl, ↓wp_rz, ↓wp_nz, ↓wp_nzL, ↓wp_fI, ↓wp_fL, ↓wp_fR, ↓wp_pI, ↓wp_pL, ↓wp_pR, ↓wp_pZ, ↓wp_aI, ↓wp_aL, ↓wp_aR, ↓wp_bI, ↓wp_bL, ↓wp_bR, ↓wp_rO, ↓wp_cO, ↓wp_nO, ↓wp_iO, ↓wp_tbI, ↓wp_tbL, ↓wp_jn, q_okT, q_okA, q_gI, q_gL, q_gR, q_sI, q_sL, q_sR, q_SI, q_SL, q_SR, q_IL, q_IR, q_LI, q_LR, q_RI, q_RL, List.contains_cons, List.contains_nil, Nat.reduceBEq, Nat.reduceEqDiff, beq_self_eq_true, Bool.or_false, Bool.false_or, Bool.true_or, Bool.or_true, Bool.and_true, Bool.true_and, Bool.false_and, Bool.and_false, if_true, if_false, Bool.false_eq_true, true_and, and_true, false_and, and_false, and_self, not_true, not_false_iff, reduceCtorEq, forall_const, false_imp_iff, true_imp_iff, true_or, or_true, false_or, or_false, s5, g10, a13, a14, dn, bt, ed]
        exact go _ ⟨trivial, L3, S3, K3⟩
      · rw [if_neg t] at bt go
        have bo := bit_o10 u hu d hd
        have S6 : StS h (wI h3 (ad b + 10) x (nI d)) (ad b + 4) wt A := ⟨S3.1.wI _ x _ (by omega), by rw [q_ne (by omega)]; exact a13, by rw [q_ne (by omega)]; exact a14, by rw [q_ne (by omega)]; exact S3.2.2.2.1, by rw [q_ne (by omega)]; exact S3.2.2.2.2.1, S3.2.2.2.2.2⟩
        have r6 : ∀ j, hI (wI h3 (ad b + 10) x (nI d)) (ad b + 10) j = if j = x then nI d else hI h3 (ad b + 10) j := fun j => by
          rw [q_II]
          by_cases z : j = x
          · rw [if_pos ⟨rfl, z⟩, if_pos z]
          · rw [if_neg (fun q => z q.2), if_neg z]
        have R6 := R.cx hb hk S6.1
        obtain ⟨-, s56, -, -⟩ := R6.B.rr hb hk
        have al := t_X5_allHoldAt R6 hb hk T em e4 e5 (x := x) (by omega)
        have sc : solL (inL w b m) (okS w b m kx ky) (celA w b kx ky) f (x + 1) (u ||| 2 ^ d) (hI (wI h3 (ad b + 10) x (nI d)) (ad b + 10)) (10 * sf + nI d) = solL (inL w b m) (okS w b m kx ky) (celA w b kx ky) f (x + 1) (u ||| 2 ^ d) (setD (hI hh (ad b + 10)) x (nI d)) (10 * sf + nI d) := by
          refine solL_congr (ok_congr T) _ _ _ _ _ _ (by omega) (fun j hj _ => ?_)
          rw [r6]
          unfold setD
          by_cases z : j = x
          · rw [if_pos z, if_pos z]
          · rw [if_neg z, if_neg z]; exact K3 j (by omega)
        rw [← sc] at go
        have K6 : ∀ j, j < x → hI (wI h3 (ad b + 10) x (nI d)) (ad b + 10) j = hI hh (ad b + 10) j := fun j hj => by rw [r6, if_neg (by omega)]; exact K3 j hj
        by_cases an : anyN (fun k => decide (lst_ w b k = nI x) && !holdsC w b kx ky (hI (wI h3 (ad b + 10) x (nI d)) (ad b + 10)) k) m = true
        · rw [if_pos an] at al
          obtain ⟨q, q1, q2⟩ := anyN_ex an
          have q3 := Bool.and_eq_true_iff.mp q2
          have q4 : lst_ w b q = nI x := of_decide_eq_true q3.1
          have q5 : holdsC w b kx ky (hI (wI h3 (ad b + 10) x (nI d)) (ad b + 10)) q = false := by
            have := q3.2
            cases z : holdsC w b kx ky (hI (wI h3 (ad b + 10) x (nI d)) (ad b + 10)) q with
            | false => rfl
            | true => rw [z] at this; cases this
          have nl : solL (inL w b m) (okS w b m kx ky) (celA w b kx ky) f (x + 1) (u ||| 2 ^ d) (hI (wI h3 (ad b + 10) x (nI d)) (ad b + 10)) (10 * sf + nI d) = [] := solL_nil _ _ _ _ _ (fun E e => holdsC_bad q1 (by rw [← holdsC_eq T q1 (show x < 6 by omega) q4 e]; exact q5))
          rw [nl] at go
          simp (config := {decide := true, maxSteps := 5000000}) (disch := omega) only [↓reduceIte, ↓wp_some, ↓wp_none, wp_ite, ↓wp_cl, ↓wp_rz, ↓wp_nz, ↓wp_nzL, ↓wp_fI, ↓wp_fL, ↓wp_fR, ↓wp_pI, ↓wp_pL, ↓wp_pR, ↓wp_pZ, ↓wp_aI, ↓wp_aL, ↓wp_aR, ↓wp_bI, ↓wp_bL, ↓wp_bR, ↓wp_rO, ↓wp_cO, ↓wp_nO, ↓wp_iO, ↓wp_tbI, ↓wp_tbL, ↓wp_jn, q_okT, q_okA, q_gI, q_gL, q_gR, q_sI, q_sL, q_sR, q_SI, q_SL, q_SR, q_IL, q_IR, q_LI, q_LR, q_RI, q_RL, List.contains_cons, List.contains_nil, Nat.reduceBEq, Nat.reduceEqDiff, beq_self_eq_true, Bool.or_false, Bool.false_or, Bool.true_or, Bool.or_true, Bool.and_true, Bool.true_and, Bool.false_and, Bool.and_false, if_true, if_false, Bool.false_eq_true, true_and, and_true, false_and, and_false, and_self, not_true, not_false_iff, reduceCtorEq, forall_const, false_imp_iff, true_imp_iff, true_or, or_true, false_or, or_false, s5, s10, r12, g10, a13, a14, dn, bt, ed, cx, wp_use al, nI_neg, dle, decide_false, Bool.not_false]
          exact go _ ⟨trivial, L3, S6, K6⟩
        · rw [if_neg an] at al
          have ob6 : okBelow w b m kx ky (x + 1) (hI (wI h3 (ad b + 10) x (nI d)) (ad b + 10)) := by
            intro q hq l hl el
            by_cases z : l = x
            · subst z
              cases z : holdsC w b kx ky (hI (wI h3 (ad b + 10) l (nI d)) (ad b + 10)) q with
              | true => rfl
              | false => exact absurd (anyN_at hq (by rw [z, decide_eq_true el]; rfl)) an
            · rw [← ob q hq l (by omega) el]
              exact holdsC_eq T hq (by omega) el (fun j hj _ => K6 j (by omega))
          have IH := IH (x + 1) k (u ||| 2 ^ d) A (wI h3 (ad b + 10) x (nI d)) (10 * sf + nI d) (by omega) (fun q => absurd q (by decide)) (by omega) (or_1024 hu hd) S6 (by omega) ob6
          simp (config := {decide := true, maxSteps := 5000000}) (disch := omega) only [↓reduceIte, ↓wp_some, ↓wp_none, wp_ite, ↓wp_cl, ↓wp_rz, ↓wp_nz, ↓wp_nzL, ↓wp_fI, ↓wp_fL, ↓wp_fR, ↓wp_pI, ↓wp_pL, ↓wp_pR, ↓wp_pZ, ↓wp_aI, ↓wp_aL, ↓wp_aR, ↓wp_bI, ↓wp_bL, ↓wp_bR, ↓wp_rO, ↓wp_cO, ↓wp_nO, ↓wp_iO, ↓wp_tbI, ↓wp_tbL, ↓wp_jn, q_okT, q_okA, q_gI, q_gL, q_gR, q_sI, q_sL, q_sR, q_SI, q_SL, q_SR, q_IL, q_IR, q_LI, q_LR, q_RI, q_RL, List.contains_cons, List.contains_nil, Nat.reduceBEq, Nat.reduceEqDiff, beq_self_eq_true, Bool.or_false, Bool.false_or, Bool.true_or, Bool.or_true, Bool.and_true, Bool.true_and, Bool.false_and, Bool.and_false, if_true, if_false, Bool.false_eq_true, true_and, and_true, false_and, and_false, and_self, not_true, not_false_iff, reduceCtorEq, forall_const, false_imp_iff, true_imp_iff, true_or, or_true, false_or, or_false, s5, s56, s10, r12, g10, a13, a14, dn, bt, ed, e1, cx, bo, wp_use al, nI_neg, dle, decide_false, Bool.not_false]
          refine wp_mono IH ?_
          rintro _ h7 ⟨q1, q2⟩
          refine go _ ⟨trivial, wl _ _ L3, q1, fun j hj => ?_⟩
          rw [q2 j (by omega)]
          exact K6 j hj
theorem t_sea {h w : AH} {P : Nat → Prog} {ad : Nat → Nat} (R : RC h w P ad) {b m kx ky : Nat} (hb : b < nB w) (hk : hI w 51 b = 2 ∨ hI w 51 b = 5) (T : TelW w b m kx ky) (em : hI w 80 b = nI m) (e4 : told_ w b 4 = some kx) (e5 : told_ w b 5 = some ky) {wt : Nat} (hwt : wt < 2 ^ 31) : ∀ n f, f < n → SeaK h w ad b m kx ky wt 1 f := by
  intro n
  induction n with
  | zero => intro f hf; omega
  | succ n ih => intro f hf; exact t_seaT R hb hk T em e4 e5 hwt (t_seaS R hb hk T em e4 e5 (fun g hg => ih g (by omega)))
