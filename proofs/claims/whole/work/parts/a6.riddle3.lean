/-! the call riddle: the class -/
theorem RC.tel0 {h w : AH} {P : Nat → Prog} {ad : Nat → Nat} (R : RC h w P ad) {b0 : Nat} (hb0 : b0 < nB w) (hk0 : hI w 51 b0 = 2 ∨ hI w 51 b0 = 5) : RC (wI (wI (wI (wI h (ad b0 + 4) 8 0) (ad b0 + 4) 9 0) (ad b0 + 4) 10 (-1)) (ad b0 + 4) 11 (-1)) (wI w 80 b0 0) P ad := by
  have h107 := ad_ge R.B.1 (show b0 ≤ nB w by omega)
  have B := (((R.B.w4 hb0 hk0 (o := 4) (k0 := 8) (by omega) (by omega) 0).w4 hb0 hk0 (o := 4) (k0 := 9) (by omega) (by omega) 0).w4 hb0 hk0 (o := 4) (k0 := 10) (by omega) (by omega) (-1)).w4 hb0 hk0 (o := 4) (k0 := 11) (by omega) (by omega) (-1)
  have O : RO (wI (wI (wI (wI h (ad b0 + 4) 8 0) (ad b0 + 4) 9 0) (ad b0 + 4) 10 (-1)) (ad b0 + 4) 11 (-1)) w P ad := R.o.hc (fun a ha => by rw [q_ne (by omega), q_ne (by omega), q_ne (by omega), q_ne (by omega)]) (fun _ _ => rfl) (fun _ _ => rfl)
  refine RC.of ((((R.l.wI _ _ _).wI _ _ _).wI _ _ _).wI _ _ _) (O.wc rfl) (RB.wc (w := w) B rfl) ?_
  intro b hb hk
  have hb : b < nB w := hb
  have hk : hI w 51 b = 2 ∨ hI w 51 b = 5 := hk
  have old := R.dd b hb hk
  have bb := blkR hk
  have b0b := blkR hk0
  by_cases z : b = b0
  · subst z
    have w80 : hI (wI w 80 b 0) 80 b = 0 := q_at
    have c0 : (0 : Int32).toNatClampNeg = 0 := by decide
    have el : letters_ (wI w 80 b 0) b = 0 := by unfold letters_; rw [w80, c0]; rfl
    have et : ∀ y, told_ (wI w 80 b 0) b y = none := fun y => by unfold told_; rw [w80, c0]; rfl
    rw [el, et, et, w80]
    refine ⟨?_, ?_, ?_, q_at, fun i hi h2 => absurd h2 (by have := nI_pos' (n := i) (by omega); grind)⟩
    · rw [q_atne (by omega), q_atne (by omega), q_atne (by omega), q_at]
    · rw [q_atne (by omega), q_atne (by omega), q_at]
    · rw [q_atne (by omega), q_at]; rfl
  · have nen : ∀ i, i < 11 → ad b + i ≠ ad b0 + 4 := fun i hi => ad_ne R.B.1 hb hb0 z (by omega) (by omega)
    have g : ∀ i, i < 11 → hI (wI (wI (wI (wI h (ad b0 + 4) 8 0) (ad b0 + 4) 9 0) (ad b0 + 4) 10 (-1)) (ad b0 + 4) 11 (-1)) (ad b + i) = hI h (ad b + i) := fun i hi => by
      rw [q_ne (nen i hi), q_ne (nen i hi), q_ne (nen i hi), q_ne (nen i hi)]
    have w80 : hI (wI w 80 b0 0) 80 b = hI w 80 b := by rw [q_II, if_neg (fun y => z y.2)]
    have el : letters_ (wI w 80 b0 0) b = letters_ w b := by unfold letters_; rw [w80, q_ne (by decide), q_ne (by decide), q_ne (by decide)]
    have et : ∀ y, told_ (wI w 80 b0 0) b y = told_ w b y := fun y => by unfold told_; rw [w80, q_ne (by decide)]
    rw [g 4 (by omega), g 5 (by omega), g 6 (by omega), g 7 (by omega), g 8 (by omega), g 9 (by omega), el, et, et, w80]
    exact old
theorem WD.of {w w1 : AH} (D : WD w) (e49 : hI w1 49 = hI w 49) (e51 : hI w1 51 = hI w 51) (e : ∀ a, 80 ≤ a → a ≤ 84 → hI w1 a = hI w a) : WD w1 := by
  unfold WD nB at *
  rw [e49, e51, e 80 (by omega) (by omega), e 81 (by omega) (by omega), e 82 (by omega) (by omega), e 83 (by omega) (by omega), e 84 (by omega) (by omega)]
  exact D
theorem WD.tel0 {w : AH} (D : WD w) (b0 : Nat) : WD (wI w 80 b0 0) := by
  intro b hb hk
  by_cases z : b = b0
  · subst z
    exact ⟨0, by omega, q_at.trans nI_z.symm, fun k hk => absurd hk (by omega)⟩
  · obtain ⟨m, hm, em, q⟩ := D b hb hk
    refine ⟨m, hm, ?_, q⟩
    rw [q_II, if_neg (fun y => z y.2)]; exact em
theorem WD.tel1 {w : AH} (D : WD w) {b0 q : Nat} (hq : q < 8) (e : hI w 80 b0 = nI q) {s f t v : Int32} (ok : telOk s f t v = true) : WD (tel1 w b0 q s f t v) := by
  intro b hb hk
  have hb : b < nB w := hb
  have hk : hI w 51 b = 2 ∨ hI w 51 b = 5 := hk
  have wr := fun k => tel1_rows w b0 q s f t v k
  obtain ⟨m, hm, em, old⟩ := D b hb hk
  by_cases z : b = b0
  · subst z
    have : m = q := by
      rw [e, nI_eq (by omega) (by omega)] at em; exact em.symm
    subst this
    refine ⟨m + 1, by omega, by rw [(wr b).2.2.2.2, if_pos rfl], fun k hk => ?_⟩
    rw [(wr _).1, (wr _).2.1, (wr _).2.2.1, (wr _).2.2.2.1]
    by_cases y : k = m
    · subst y; rw [if_pos rfl, if_pos rfl, if_pos rfl, if_pos rfl]; exact ok
    · rw [if_neg (by omega), if_neg (by omega), if_neg (by omega), if_neg (by omega)]; exact old k (by omega)
  · refine ⟨m, hm, by rw [(wr b).2.2.2.2, if_neg z]; exact em, fun k hk => ?_⟩
    rw [(wr _).1, (wr _).2.1, (wr _).2.2.1, (wr _).2.2.2.1, if_neg (by omega), if_neg (by omega), if_neg (by omega), if_neg (by omega)]
    exact old k hk
theorem telOk_t {s f t t' v : Int32} (h : telOk s f t v = true) (ht : s ≤ 2 → t' = t) : telOk s f t' v = true := by
  have h := of_decide_eq_true h
  refine decide_eq_true ⟨h.1, ?_⟩
  have h2 := h.2
  split
  · rename_i c
    rw [if_pos c] at h2
    exact ⟨h2.1, fun c2 => by rw [ht c2]; exact h2.2.1 c2, h2.2.2⟩
  · rename_i c
    rw [if_neg c] at h2; exact h2
theorem RB.rr {h w : AH} {ad : Nat → Nat} (B : RB h w ad) {b : Nat} (hb : b < nB w) (hk : hI w 51 b = 2 ∨ hI w 51 b = 5) : hR h (ad b) 7 = some (ad b + 4) ∧ (hS h)[ad b + 4]? = some (5, 15) ∧ (hR h (ad b + 4) 3 = some (ad b + 5) ∧ hR h (ad b + 4) 4 = some (ad b + 6) ∧ hR h (ad b + 4) 5 = some (ad b + 7) ∧ hR h (ad b + 4) 6 = some (ad b + 8) ∧ hR h (ad b + 4) 7 = some (ad b + 9) ∧ hR h (ad b + 4) 12 = some (ad b + 10)) ∧ ∀ o, 5 ≤ o → o < 10 → (hS h)[ad b + o]? = some (20, 8) := by
  have q := B.1.2.2.2 b hb
  have bb := blkR hk
  have so := q.2.2.2.2.1
  refine ⟨?_, ?_, q.2.2.2.2.2.2.2 hk, fun o h5 h10 => ?_⟩
  · rw [(q.2.2.2.2.2.2.1 (boxR hk)).2.2.2, if_pos hk]
  · rw [so 4 (by omega)]
    rcases hk with e | e <;> rw [e] <;> decide
  · rw [so o (by omega)]
    have : o = 5 ∨ o = 6 ∨ o = 7 ∨ o = 8 ∨ o = 9 := by omega
    rcases hk with e | e <;> rw [e] <;> rcases this with rfl | rfl | rfl | rfl | rfl <;> decide
