/-! the call leaves -/
/-! the call take -/
theorem RB.keep8 {h w : AH} {ad : Nat → Nat} (B : RB h w ad) {b0 : Nat} (hb0 : b0 < nB w) (hk0 : boxK (hI w 51 b0) = true) (v : Int32) : RB (wI h (ad b0) 8 v) (wI w 55 b0 v) ad := by
  refine B.setx hb0 hk0 (by omega) v rfl rfl B.2.1 B.2.2.2.1 B.2.2.2.2 ?_
  intro b hb hk k hkk
  by_cases z : k = 8
  · subst z
    show hI (wI w 55 b0 v) 55 b = _
    rw [q_II]
    by_cases z2 : b = b0 <;> simp [z2, bx]
  · rw [if_neg (fun y => z y.2)]
    unfold bx
    split <;> first | rfl | exact absurd rfl z
theorem RB.ask0 {h w : AH} {ad : Nat → Nat} (B : RB h w ad) {b0 : Nat} (hb0 : b0 < nB w) (hk0 : boxK (hI w 51 b0) = true) : RB (wI h (ad b0) 17 0) (wI w 89 b0 0) ad := by
  refine B.setx hb0 hk0 (by omega) 0 rfl rfl B.2.1 ?_ B.2.2.2.2 ?_
  · intro b hb hk
    have := B.2.2.2.1 b hb hk
    refine ⟨this.1, this.2.1, fun i h1 h2 => ?_⟩
    have h2 : nI i < hI (wI w 89 b0 0) 89 b := h2
    rw [q_II] at h2
    by_cases z : b = b0
    · rw [if_pos ⟨rfl, z⟩] at h2
      exact absurd h2 (nI_pos (by omega))
    · rw [if_neg (fun y => z y.2)] at h2
      exact this.2.2 i h1 h2
  intro b hb hk k hkk
  by_cases z : k = 17
  · subst z
    show hI (wI w 89 b0 0) 89 b = _
    rw [q_II]
    by_cases z2 : b = b0 <;> simp [z2, bx]
  · rw [if_neg (fun y => z y.2)]
    unfold bx
    split <;> first | rfl | exact absurd rfl z
theorem RC.take {h w : AH} {P : Nat → Prog} {ad : Nat → Nat} (R : RC h w P ad) {b0 : Nat} (hb0 : b0 < nB w) (hk0 : boxK (hI w 51 b0) = true) (v : Int32) : RC (wI (wI h (ad b0) 8 v) (ad b0) 17 0) (wI (wI w 55 b0 v) 89 b0 0) P ad := by
  have := ad_ge R.B.1 (show b0 ≤ nB w by omega)
  have B1 := R.B.keep8 hb0 hk0 v
  have B2 := RB.ask0 (w := wI w 55 b0 v) B1 hb0 hk0
  have D := R.dd.setx R.B hb0 0 8 (blk_pos _) (by omega) v
  rw [Nat.add_zero] at D
  have D : RBd (wI h (ad b0) 8 v) (wI w 55 b0 v) ad := D.wc rfl
  have D2 := D.setx B1 hb0 0 17 (blk_pos _) (by omega) 0
  rw [Nat.add_zero] at D2
  have O1 : RO (wI h (ad b0) 8 v) (wI w 55 b0 v) P ad := (R.o.hc (fun a ha => q_ne (by omega)) (fun _ _ => rfl) (fun _ _ => rfl)).wc rfl
  have O2 : RO (wI (wI h (ad b0) 8 v) (ad b0) 17 0) (wI (wI w 55 b0 v) 89 b0 0) P ad := (O1.hc (fun a ha => q_ne (by omega)) (fun _ _ => rfl) (fun _ _ => rfl)).wc rfl
  exact RC.of ((R.l.wI _ _ _).wI _ _ _) O2 B2 (D2.wc rfl)
