/-! THE CLASS'S PART, UNDER WHAT THE LAW DOES TO ITS OWN CELLS -/
theorem tS_lt : ∀ a, a < 49 → (tS a).1 < 28 := by decide
theorem tR_lt : ∀ q ∈ tR, q.1 < 49 := by decide
theorem sB_lt (k : Int32) (o : Nat) : (sB k o).1 < 28 := by
  unfold sB
  split
  · decide
  split
  · decide
  split
  · split <;> decide
  · split <;> decide
theorem RB.ext {h g w : AH} {ad : Nat → Nat} {M : List (Nat × Nat)} (B : RB h w ad) (eS : hS g = hS h ++ M) (e13 : hI g 1 3 = hI h 1 3) (r3 : hR g 3 = hR h 3) (e : ∀ b o, b < nB w → o < blk (hI w 51 b) → hI g (ad b + o) = hI h (ad b + o)) (r : ∀ b o, b < nB w → o < blk (hI w 51 b) → hR g (ad b + o) = hR h (ad b + o)) : RB g w (fun b => if b = nB w then (hS g).length else ad b) := by
  have lt : ∀ b, b < nB w → ¬ b = nB w := fun b hb z => by omega
  have e0 : ∀ b, b < nB w → hI g (ad b) = hI h (ad b) := fun b hb => e b 0 hb (blk_pos _)
  have r0 : ∀ b, b < nB w → hR g (ad b) = hR h (ad b) := fun b hb => r b 0 hb (blk_pos _)
  have b4 : ∀ b, boxK (hI w 51 b) = true → 4 ≤ blk (hI w 51 b) := fun b h => blk_box h
  have b3 : ∀ b, hI w 51 b = 6 → blk (hI w 51 b) = 3 := fun b h => by rw [h]; decide
  have b11 : ∀ b, hI w 51 b = 2 ∨ hI w 51 b = 5 → blk (hI w 51 b) = 11 := fun b h => by rcases h with z | z <;> rw [z] <;> decide
  have hl : (hS h).length ≤ (hS g).length := by rw [eS, List.length_append]; omega
  have h49 : 49 ≤ (hS h).length := by rw [← B.1.2.1]; exact ad_ge B.1 (Nat.le_refl _)
  refine ⟨⟨?_, if_pos rfl, by rw [e13]; exact B.1.2.2.1, fun b hb => ?_⟩, fun b hb hk => ?_, fun b hb hk => ?_, fun b hb hk => ?_, fun b hb hk => ?_⟩
  · show 49 ≤ if 0 = nB w then _ else _
    by_cases c : 0 = nB w
    · rw [if_pos c]; omega
    · rw [if_neg c]; exact B.1.1
  · obtain ⟨q1, q2, q3, q4, q5, q6, q7, q8⟩ := B.1.2.2.2 b hb
    have q1' : ad b + blk (hI w 51 b) ≤ if b + 1 = nB w then (hS g).length else ad (b + 1) := by
      by_cases c : b + 1 = nB w
      · rw [if_pos c]
        rw [c, B.1.2.1] at q1
        omega
      · rw [if_neg c]; exact q1
    simp only [if_neg (lt b hb)]
    refine ⟨q1', by rw [r3]; exact q2, by rw [e0 b hb]; exact q3, by rw [e0 b hb]; exact q4, fun o ho => ?_, fun z => ?_, fun z => ?_, fun z => ?_⟩
    · have := q5 o ho
      rw [eS, List.getElem?_append_left (List.getElem?_eq_some_iff.mp this).1]
      exact this
    · rw [r0 b hb]; exact q6 z
    · rw [r0 b hb]; exact q7 z
    · rw [r b 4 hb (by have := b11 b z; omega)]; exact q8 z
  · simp only [if_neg (lt b hb)]
    rw [e0 b hb]; exact B.2.1 b hb hk
  · simp only [if_neg (lt b hb)]
    rw [e0 b hb]; exact B.2.2.1 b hb hk
  · simp only [if_neg (lt b hb)]
    have := b4 b hk
    rw [e b 1 hb (by omega), e b 2 hb (by omega), e b 3 hb (by omega)]; exact B.2.2.2.1 b hb hk
  · simp only [if_neg (lt b hb)]
    have := b3 b hk
    rw [e0 b hb, e b 1 hb (by omega), e b 2 hb (by omega)]; exact B.2.2.2.2 b hb hk
theorem RC.ext {h g w : AH} {P : Nat → Prog} {ad : Nat → Nat} {M : List (Nat × Nat)} (R : RC h w P ad) (H : WH w) (X : WWi w) (eS : hS g = hS h ++ M) (c : ∀ a q, (hS h)[a]? = some q → q.1 < 28 → hI g a = hI h a ∧ hL g a = hL h a ∧ hR g a = hR h a) : RC g w P (fun b => if b = nB w then (hS g).length else ad b) := by
  have f : ∀ a, a < 49 → hI g a = hI h a := fun a ha => (c a _ (R.l.S a ha) (tS_lt a ha)).1
  have fL : ∀ a, a < 49 → hL g a = hL h a := fun a ha => (c a _ (R.l.S a ha) (tS_lt a ha)).2.1
  have fR : ∀ a, a < 49 → hR g a = hR h a := fun a ha => (c a _ (R.l.S a ha) (tS_lt a ha)).2.2
  have cb : ∀ b o, b < nB w → o < blk (hI w 51 b) → hI g (ad b + o) = hI h (ad b + o) ∧ hL g (ad b + o) = hL h (ad b + o) ∧ hR g (ad b + o) = hR h (ad b + o) := fun b o hb ho => c _ _ ((R.B.1.2.2.2 b hb).2.2.2.2.1 o ho) (sB_lt _ _)
  have adj : ∀ b, b < nB w → (fun b => if b = nB w then (hS g).length else ad b) b = ad b := fun b hb => if_neg (by omega)
  obtain ⟨l, g1, m, ll, rr, t, k, ss, a, B, d⟩ := R
  refine ⟨⟨fun a ha => ?_, fun q hq => ?_⟩, ?_, ?_, ?_, ?_, ?_, ?_, ?_, ?_, B.ext eS (by rw [f 1 (by omega)]) (fR 3 (by omega)) (fun b o hb ho => (cb b o hb ho).1) (fun b o hb ho => (cb b o hb ho).2.2), ?_⟩
  · rw [eS, List.getElem?_append_left (List.getElem?_eq_some_iff.mp (l.S a ha)).1]
    exact l.S a ha
  · rw [fR _ (tR_lt q hq)]; exact l.2 q hq
  · unfold Rg
    rw [f 1 (by omega), f 2 (by omega), f 4 (by omega)]; exact g1
  · unfold Rm
    rw [f 1 (by omega), f 5 (by omega), f 6 (by omega), f 7 (by omega)]; exact m
  · unfold Rl
    rw [f 21 (by omega), f 22 (by omega), f 23 (by omega), f 25 (by omega), f 26 (by omega)]; exact ll
  · unfold Rr
    rw [f 8 (by omega), f 15 (by omega), f 16 (by omega), f 17 (by omega), f 18 (by omega), f 19 (by omega)]; exact rr
  · unfold Rt
    rw [f 9 (by omega), f 10 (by omega)]; exact t
  · unfold Rk
    rw [f 28 (by omega), f 31 (by omega), f 32 (by omega), f 29 (by omega), fR 30 (by omega)]
    refine ⟨k.1, fun i hi => ?_, k.2.2⟩
    obtain ⟨b, hb, e, -⟩ := X i hi
    have := k.2.1 i hi
    rw [e, nI_clamp (by have := B.1.2.1; have := B.1.2.2.1; have : b < 2 ^ 31 := by
                                    have h1 : nB w ≤ 2 ^ 31 - 1 := by
                                      unfold nB
                                      have := (hI w 49 3).toNatClampNeg_lt
                                      omega
                                    omega
                        omega)] at this ⊢
    rw [this, adj b hb]
  · intro s hs
    have q := ss s hs
    unfold shelfAt_ at q ⊢
    rw [f (36 + 2 * s) (by omega), fR (36 + 2 * s) (by omega), fL (36 + 2 * s + 1) (by omega)]
    refine ⟨?_, q.2⟩
    rw [q.1]
    rcases H s hs with z | ⟨b, hb, z⟩ | ⟨⟨k, hk, z⟩, -⟩
    · rw [z]; rfl
    · have hb31 : b < 2 ^ 31 := by
        have h1 : nB w ≤ 2 ^ 31 - 1 := by
          unfold nB
          have := (hI w 49 3).toNatClampNeg_lt
          omega
        omega
      rw [z, if_pos (nI_pos' hb31), if_pos (nI_pos' hb31), nI_clamp hb31, adj b hb]
    · have : k = 0 ∨ k = 1 ∨ k = 2 ∨ k = 3 ∨ k = 4 := by omega
      rw [z]
      rcases this with rfl | rfl | rfl | rfl | rfl <;> rw [if_neg (by decide), if_neg (by decide)]
  · unfold Ra
    rw [f 48 (by omega)]; exact a
  · intro b hb hk
    have b11 : blk (hI w 51 b) = 11 := by rcases hk with z | z <;> rw [z] <;> decide
    have q := d b hb hk
    simp only [if_neg (show ¬ b = nB w by omega)]
    rw [(cb b 4 hb (by omega)).1, (cb b 5 hb (by omega)).1, (cb b 6 hb (by omega)).1, (cb b 7 hb (by omega)).1, (cb b 8 hb (by omega)).1, (cb b 9 hb (by omega)).1]
    exact q
theorem RC.rst {h h' w : AH} {P : Nat → Prog} {ad : Nat → Nat} (R : RC h' w P ad) (H : WH w) (X : WWi w) (s : SM h h') : hS (rst h h') = hS h' ∧ ∃ ad', RC (rst h h') w P ad' := by
  obtain ⟨M, eM⟩ := s
  have eS : hS (Jvm.Pilot.@@N@@.rst h h') = hS h' := rstS_eq _ _ (by rw [eM, List.length_append]; omega) (fun k q e _ => by
    rw [eM, List.getElem?_append_left (List.getElem?_eq_some_iff.mp e).1]
    exact e)
  refine ⟨eS, _, R.ext (M := []) H X (by rw [eS, List.append_nil]) (fun a q hq c => ?_)⟩
  have e1 : isL h a = false := by
    cases e : isL h a with
    | false => rfl
    | true =>
      obtain ⟨p, hp, h28⟩ := isL_iff.mp e
      have : (hS h')[a]? = some p := by
        rw [eM, List.getElem?_append_left (List.getElem?_eq_some_iff.mp hp).1]
        exact hp
      rw [hq] at this
      cases this
      omega
  exact ⟨rst_I0 e1, rst_L0 e1, rst_R0 e1⟩
