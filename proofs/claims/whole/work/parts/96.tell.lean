/-! the call tell -/
def RB4 (h w : AH) (ad : Nat → Nat) : Prop := RBs h w ad ∧ RBf h w ad ∧ RBx h w ad ∧ RBr h w ad
theorem RB4.wt {h w : AH} {ad : Nat → Nat} (B : RB4 h w ad) {b0 : Nat} (hb0 : b0 < nB w) (hk0 : hI w 51 b0 = 6) {o k0 : Nat} (ho : o < 3) (c : 1 ≤ o ∨ 2 ≤ k0) (v : Int32) : RB4 (wI h (ad b0 + o) k0 v) w ad := by
  have hb : o < blk (hI w 51 b0) := by rw [hk0]; exact ho
  have rd0 := fun b (hb' : b < nB w) i (hi : i < blk (hI w 51 b)) j => rd B.1 hb' hb0 (o := o) hi hb k0 v j
  have g0 : ∀ b, b < nB w → hI w 51 b ≠ 6 → ∀ i, i < blk (hI w 51 b) → ∀ j, hI (wI h (ad b0 + o) k0 v) (ad b + i) j = hI h (ad b + i) j := fun b hb' ne i hi j => by
    rw [rd0 b hb' i hi, if_neg]
    rintro ⟨rfl, -⟩; exact ne hk0
  refine ⟨B.1.wr hb0 hb c v, fun b hb hk7 => ?_, fun b hb hkb => ?_, fun b hb hkb => ?_⟩
  · have := g0 b hb (by rw [hk7]; decide) 0 (blk_pos _)
    simp only [Nat.add_zero] at this
    simp only [this]; exact B.2.1 b hb hk7
  · have ne : hI w 51 b ≠ 6 := fun z => by rw [z] at hkb; exact absurd hkb (by decide)
    have := g0 b hb ne 0 (blk_pos _)
    simp only [Nat.add_zero] at this
    simp only [this]; exact B.2.2.1 b hb hkb
  · have ne : hI w 51 b ≠ 6 := fun z => by rw [z] at hkb; exact absurd hkb (by decide)
    have b4 := blk_box hkb
    have g := g0 b hb ne
    have this := B.2.2.2 b hb hkb
    exact ⟨fun i h1 h2 => by rw [g 1 (by omega)]; exact this.1 i h1 h2, fun i h1 h2 => by rw [g 2 (by omega)]; exact this.2.1 i h1 h2, fun i h1 h2 => by rw [g 3 (by omega)]; exact this.2.2 i h1 h2⟩
theorem RC.tell {h w : AH} {P : Nat → Prog} {ad : Nat → Nat} (R : RC h w P ad) {b0 : Nat} (hb0 : b0 < nB w) (hk0 : hI w 51 b0 = 6) {q : Nat} (hq : q < 12) (e : hI w 86 b0 = nI q) (a v : Int32) : RC (wI (wI (wI h (ad b0 + 1) q a) (ad b0 + 2) q v) (ad b0) 4 (nI (q + 1))) (wI (wI (wI w 87 (12 * b0 + q) a) 88 (12 * b0 + q) v) 86 b0 (nI (q + 1))) P ad := by
  have h107 := ad_ge R.B.1 (show b0 ≤ nB w by omega)
  have b3 : blk (hI w 51 b0) = 3 := by rw [hk0]; decide
  have B0 : RB4 h w ad := ⟨R.B.1, R.B.2.1, R.B.2.2.1, R.B.2.2.2.1⟩
  have B1 := B0.wt hb0 hk0 (o := 1) (k0 := q) (by omega) (by omega) a
  have B2 := B1.wt hb0 hk0 (o := 2) (k0 := q) (by omega) (by omega) v
  have B3 := B2.wt hb0 hk0 (o := 0) (k0 := 4) (by omega) (by omega) (nI (q + 1))
  have D1 := R.dd.setx R.B hb0 1 q (by omega) (by omega) a
  have O : RO (wI (wI (wI h (ad b0 + 1) q a) (ad b0 + 2) q v) (ad b0) 4 (nI (q + 1))) w P ad := R.o.hc (fun a ha => by rw [q_ne (by omega), q_ne (by omega), q_ne (by omega)]) (fun _ _ => rfl) (fun _ _ => rfl)
  have D : RBd (wI (wI (wI h (ad b0 + 1) q a) (ad b0 + 2) q v) (ad b0) 4 (nI (q + 1))) w ad := by
    intro b hb hk
    have b9 : 10 ≤ blk (hI w 51 b) := by rcases hk with z | z <;> rw [z] <;> decide
    have g : ∀ i, 4 ≤ i → i < 10 → ∀ j, hI (wI (wI (wI h (ad b0 + 1) q a) (ad b0 + 2) q v) (ad b0) 4 (nI (q + 1))) (ad b + i) j = hI h (ad b + i) j := fun i h1 h2 j => by
      have r1 := rd B2.1 hb hb0 (i := i) (o := 0) (by omega) (blk_pos _) 4 (nI (q + 1)) j
      simp only [Nat.add_zero] at r1
      rw [r1, if_neg (by omega), rd B1.1 hb hb0 (i := i) (o := 2) (by omega) (by omega) q v j, if_neg (by omega), rd B0.1 hb hb0 (i := i) (o := 1) (by omega) (by omega) q a j, if_neg (by omega)]
    simp only [g 4 (by omega) (by omega), g 5 (by omega) (by omega), g 6 (by omega) (by omega), g 7 (by omega) (by omega), g 8 (by omega) (by omega), g 9 (by omega) (by omega)]
    exact R.dd b hb hk
  simp only [Nat.add_zero] at B3
  refine RC.of (((R.l.wI _ _ _).wI _ _ _).wI _ _ _) (O.wc rfl) ⟨B3.1, B3.2.1, B3.2.2.1, B3.2.2.2, fun b hb hk6 => ?_⟩ (D.wc rfl)
  have hb : b < nB w := hb
  have hk6 : hI w 51 b = 6 := hk6
  have this := R.B.2.2.2.2 b hb hk6
  have c3 : blk (hI w 51 b) = 3 := by rw [hk6]; decide
  have g : ∀ i, i < 3 → ∀ j, hI (wI (wI (wI h (ad b0 + 1) q a) (ad b0 + 2) q v) (ad b0) 4 (nI (q + 1))) (ad b + i) j = if b = b0 ∧ i = 0 ∧ j = 4 then nI (q + 1) else if b = b0 ∧ i = 2 ∧ j = q then v else if b = b0 ∧ i = 1 ∧ j = q then a else hI h (ad b + i) j := fun i h2 j => by
    have r1 := rd B2.1 hb hb0 (i := i) (o := 0) (by omega) (blk_pos _) 4 (nI (q + 1)) j
    simp only [Nat.add_zero] at r1
    rw [r1, rd B1.1 hb hb0 (i := i) (o := 2) (by omega) (by omega) q v j, rd B0.1 hb hb0 (i := i) (o := 1) (by omega) (by omega) q a j]
  have g1 : ∀ j, hI (wI (wI (wI h (ad b0 + 1) q a) (ad b0 + 2) q v) (ad b0) 4 (nI (q + 1))) (ad b + 1) j = if b = b0 ∧ j = q then a else hI h (ad b + 1) j := fun j => by
    rw [g 1 (by omega)]
    by_cases z : b = b0 ∧ j = q
    · rw [if_neg (by omega), if_neg (by omega), if_pos ⟨z.1, rfl, z.2⟩, if_pos z]
    · rw [if_neg (by omega), if_neg (by omega), if_neg (fun y => z ⟨y.1, y.2.2⟩), if_neg z]
  have g2 : ∀ j, hI (wI (wI (wI h (ad b0 + 1) q a) (ad b0 + 2) q v) (ad b0) 4 (nI (q + 1))) (ad b + 2) j = if b = b0 ∧ j = q then v else hI h (ad b + 2) j := fun j => by
    rw [g 2 (by omega)]
    by_cases z : b = b0 ∧ j = q
    · rw [if_neg (by omega), if_pos ⟨z.1, rfl, z.2⟩, if_pos z]
    · rw [if_neg (by omega), if_neg (fun y => z ⟨y.1, y.2.2⟩), if_neg (by omega), if_neg z]
  have g4 := g 0 (by omega) 4
  simp only [Nat.add_zero] at g4
  have w6 : ∀ b, hI (wI (wI (wI w 87 (12 * b0 + q) a) 88 (12 * b0 + q) v) 86 b0 (nI (q + 1))) 86 b = if b = b0 then nI (q + 1) else hI w 86 b := fun b => by
    rw [q_II]
    by_cases z : b = b0
    · rw [if_pos ⟨rfl, z⟩, if_pos z]
    · rw [if_neg (fun y => z y.2), if_neg z]; rfl
  have w7 : ∀ k, hI (wI (wI (wI w 87 (12 * b0 + q) a) 88 (12 * b0 + q) v) 86 b0 (nI (q + 1))) 87 k = if k = 12 * b0 + q then a else hI w 87 k := fun k => by
    rw [q_ne (by omega), q_ne (by omega), q_II]
    by_cases z : k = 12 * b0 + q
    · rw [if_pos ⟨rfl, z⟩, if_pos z]
    · rw [if_neg (fun y => z y.2), if_neg z]
  have w8 : ∀ k, hI (wI (wI (wI w 87 (12 * b0 + q) a) 88 (12 * b0 + q) v) 86 b0 (nI (q + 1))) 88 k = if k = 12 * b0 + q then v else hI w 88 k := fun k => by
    rw [q_ne (by omega), q_II]
    by_cases z : k = 12 * b0 + q
    · rw [if_pos ⟨rfl, z⟩, if_pos z]
    · rw [if_neg (fun y => z y.2), if_neg z]; rfl
  rw [g4, w6]
  refine ⟨?_, fun i h1 h2 => ?_⟩
  · by_cases z : b = b0
    · rw [if_pos ⟨z, trivial, trivial⟩, if_pos z]
    · rw [if_neg (fun y => z y.1), if_neg (fun y => z y.1), if_neg (fun y => z y.1), if_neg z]; exact this.1
  · rw [g1, g2, w7, w8]
    by_cases z : b = b0 ∧ i = q
    · rw [if_pos z, if_pos z, if_pos (by omega), if_pos (by omega)]; exact ⟨rfl, rfl⟩
    · rw [if_neg z, if_neg z, if_neg (by omega), if_neg (by omega)]
      refine this.2 i h1 ?_
      by_cases y : b = b0
      · subst y
        rw [if_pos rfl, nI_ltI (by omega) (by omega)] at h2
        rw [e, nI_ltI (by omega) (by omega)]; omega
      · rw [if_neg y] at h2; exact h2
