/-! each call keeps the invariants: new bodies, walks, riddles, rules -/
section
variable {w : AH} {P : Nat → Prog}
theorem kp_newb (G : WF w P) {w1 : AH} (hb : nB w < 150) (e3 : hI w1 49 3 = nI (nB w + 1)) (e49 : ∀ k, k ≠ 3 → hI w1 49 k = hI w 49 k) (eo : ∀ a, a = 50 ∨ (58 ≤ a ∧ a ≤ 65) ∨ 67 ≤ a → hI w1 a = hI w a) (eb : ∀ a, (51 ≤ a ∧ a ≤ 56) ∨ a = 66 → ∀ j, j ≠ nB w → hI w1 a j = hI w a j) (e57 : ∀ j, j < 4 * nB w → hI w1 57 j = hI w 57 j) (hk : 0 ≤ hI w1 51 (nB w) ∧ hI w1 51 (nB w) ≤ 7) (hp : hI w1 66 (nB w) = -1) (hbx : boxK (hI w1 51 (nB w)) = true → (∃ f, f < nB w ∧ hI w1 55 (nB w) = nI f ∧ hI w 51 f = 7) ∧ cellOk (hI w1 52 (nB w)) ∧ (hI w1 51 (nB w) = 3 → ∃ s, 1 ≤ s ∧ s ≤ 4 ∧ hI w1 56 (nB w) = nI s ∧ ∀ i, i < s → cellOk (hI w1 57 (4 * nB w + i))) ∧ (hI w1 51 (nB w) ≠ 3 → hI w1 56 (nB w) = 0)) : WF w1 P := by
  have eB : nB w1 = nB w + 1 := by unfold nB; rw [e3, nI_clamp (by omega)]; rfl
  have eM : nM w1 = nM w := by unfold nM; rw [e49 13 (by decide)]
  have eL : nL w1 = nL w := by unfold nL; rw [e49 17 (by decide)]
  have eT : nT w1 = nT w := by unfold nT; rw [e49 33 (by decide)]
  have eS : nS w1 = nS w := by unfold nS; rw [e49 11 (by decide)]
  have eW : nW w1 = nW w := by unfold nW; rw [e49 65 (by decide)]
  have ek : ∀ b, b < nB w → hI w1 51 b = hI w 51 b := fun b h => eb 51 (by omega) b (by omega)
  refine ⟨?_, ?_, ?_, ?_, ?_, ?_, ?_, ?_, ?_, ?_, ?_, ?_, ?_, ?_, ?_, ?_, ?_⟩
  · refine G.WN.fr2 ⟨⟨nB w + 1, by omega, e3⟩, fun b h => ?_⟩ (Or.inl (e49 13 (by decide))) (Or.inl (e49 17 (by decide))) (Or.inl (e49 33 (by decide))) (Or.inl (e49 11 (by decide))) (Or.inl (e49 65 (by decide))) (Or.inl (e49 1 (by decide)))
    by_cases q : b = nB w
    · rw [q]; exact hk
    · rw [ek b (by omega)]; exact G.WN.k (by omega)
  · intro b h hkb
    rw [eB] at h
    by_cases q : b = nB w
    · subst q
      obtain ⟨⟨f, f1, f2, f3⟩, x⟩ := hbx hkb
      exact ⟨⟨f, by omega, f2, by rw [ek f f1]; exact f3⟩, x⟩
    · rw [ek b (by omega)] at hkb ⊢
      obtain ⟨⟨f, f1, f2, f3⟩, x1, x2, x3⟩ := G.WB b (by omega) hkb
      rw [eb 55 (by omega) b q, eb 52 (by omega) b q, eb 56 (by omega) b q]
      refine ⟨⟨f, by omega, f2, by rw [ek f f1]; exact f3⟩, x1, fun h3 => ?_, x3⟩
      obtain ⟨s, s1, s2, s3, s4⟩ := x2 h3
      exact ⟨s, s1, s2, s3, fun i hi => by rw [e57 (4 * b + i) (by omega)]; exact s4 i hi⟩
  · intro m hm
    rw [eM] at hm
    obtain ⟨⟨b, b1, b2, b3⟩, x⟩ := G.WM m hm
    rw [eo 59 (by omega), eo 60 (by omega)]
    exact ⟨⟨b, by omega, b2, by rw [ek b b1]; exact b3⟩, x⟩
  · intro l hl
    rw [eL] at hl
    obtain ⟨⟨f, f1, f2, f3⟩, ⟨b, b1, b2, b3⟩, x⟩ := G.WL l hl
    rw [eo 62 (by omega), eo 63 (by omega), eo 64 (by omega), eo 65 (by omega)]
    exact ⟨⟨f, by omega, f2, by rw [ek f f1]; exact f3⟩, ⟨b, by omega, b2, by rw [ek b b1]; exact b3⟩, x⟩
  · intro b h hkb
    rw [eB] at h
    by_cases q : b = nB w
    · subst q; exact Or.inl hp
    · rw [ek b (by omega)] at hkb
      rw [eb 66 (by omega) b q, eo 67 (by omega)]
      rcases G.WP b (by omega) hkb with e | ⟨p, p1, p2, p3⟩
      · exact Or.inl e
      · refine Or.inr ⟨p, p1, p2, fun i hi => ?_⟩
        obtain ⟨f, f1, f2⟩ := p3 i hi
        exact ⟨f, by omega, f2⟩
  · intro b h hkb
    rw [eB] at h
    rw [eo 89 (by omega), eo 90 (by omega)]
    by_cases q : b = nB w
    · rw [q, (G.WZr (nB w) (Nat.le_refl _)).1]
      exact ⟨0, by omega, rfl, fun i hi => absurd hi (by omega)⟩
    · rw [ek b (by omega)] at hkb
      obtain ⟨a, a1, a2, a3⟩ := G.WA b (by omega) hkb
      refine ⟨a, a1, a2, fun i hi => ?_⟩
      obtain ⟨f, f1, f2, f3⟩ := a3 i hi
      exact ⟨f, by omega, f2, by rw [ek f f1]; exact f3⟩
  · intro b h hkb
    rw [eB] at h
    rw [eo 86 (by omega), eo 87 (by omega), eo 88 (by omega), eL]
    by_cases q : b = nB w
    · rw [q, (G.WZr (nB w) (Nat.le_refl _)).2.1]
      exact ⟨0, by omega, rfl, fun i hi => absurd hi (by omega)⟩
    · rw [ek b (by omega)] at hkb
      exact G.WT b (by omega) hkb
  · exact G.WS.fr (e49 11 (by decide)) (eo 50 (by omega)) (eo 58 (by omega))
  · exact G.WV.fr (e49 75 (by decide)) (e49 76 (by decide))
  · intro s hs
    rw [eo 103 (by omega), eo 104 (by omega), eB]
    rcases G.WH s hs with e | ⟨b, b1, b2⟩ | e
    · exact Or.inl e
    · exact Or.inr (Or.inl ⟨b, by omega, b2⟩)
    · exact Or.inr (Or.inr e)
  · exact G.WG.fr (e49 33 (by decide))
  · intro b
    obtain ⟨x1, x2⟩ := G.WK b
    rw [eo 98 (by omega), eB]
    refine ⟨x1, fun h => ?_⟩
    by_cases q : b < nB w
    · rw [ek b q] at h
      exact x2 (fun y => h ⟨by omega, y.2⟩)
    · exact x2 (fun y => q y.1)
  · exact G.WF1.fr (e49 25 (by decide))
  · exact G.WBy.fr (eo 68 (by omega))
  · intro b h hkb
    rw [eB] at h
    rw [eo 80 (by omega), eo 81 (by omega), eo 82 (by omega), eo 83 (by omega), eo 84 (by omega)]
    by_cases q : b = nB w
    · rw [q, (G.WZr (nB w) (Nat.le_refl _)).2.2]
      exact ⟨0, by omega, rfl, fun i hi => absurd hi (by omega)⟩
    · rw [ek b (by omega)] at hkb
      exact G.WD b (by omega) hkb
  · intro i hi
    rw [eW] at hi
    obtain ⟨⟨b, b1, b2, b3⟩, x⟩ := G.WWo i hi
    rw [eo 92 (by omega), eo 93 (by omega), eo 94 (by omega)]
    exact ⟨⟨b, by omega, b2, by rw [ek b b1]; exact b3⟩, x⟩
  · intro b h
    rw [eB] at h
    rw [eo 89 (by omega), eo 86 (by omega), eo 80 (by omega)]
    exact G.WZr b (by omega)
theorem kp_finder (G : WF w P) (c : Int32) : WF (s_finder w c).2 P := by
  unfold s_finder
  by_cases z : 0 ≤ c ∧ c < 60
  · rw [if_pos z]
    by_cases d : nB w = 150
    · rw [if_pos d]; exact G
    · rw [if_neg d]
      have n150 := G.WN.n150
      obtain ⟨f1, f2, f3, f4, f5, -, f7, -, -⟩ := addW_facts (w := w) 7
      have e : ∀ a, a ≠ 52 → hI (wI (addW w 7) 52 (nB w) c) a = hI (addW w 7) a := fun a h => q_ne h
      refine kp_newb G (by omega) (by rw [e 49 (by decide)]; exact f1) (fun k hk => by rw [e 49 (by decide)]; exact f2 k hk) (fun a ha => by rw [e a (by omega)]; exact f3 a (by omega)) (fun a ha j hj => ?_) (fun j _ => by rw [e 57 (by decide), f3 57 (by omega)]) ?_ (by rw [e 66 (by decide)]; exact f7) (fun h => ?_)
      · by_cases q : a = 52
        · subst q; rw [q_atne hj]; exact f4 52 (by omega) j hj
        · rw [e a q]; exact f4 a ha j hj
      · rw [e 51 (by decide), f5]; decide
      · rw [e 51 (by decide), f5] at h; exact absurd h (by decide)
  · rw [if_neg z]; exact G
theorem kp_hide (G : WF w P) (f k c : Int32) : WF (s_hide w P f k c).2 P := by
  unfold s_hide
  by_cases z : isFinder_ w f = true ∧ canAsk_ w k c = true
  · rw [if_pos z]
    split
    · by_cases d : nB w = 150
      · rw [if_pos d]; exact G
      · rw [if_neg d]
        have n150 := G.WN.n150
        have s4 := G.WN.s4
        obtain ⟨fi, hf, rfl, kf⟩ := isFinder_ex G.WN z.1
        have zc := z.2
        unfold canAsk_ at zc
        have zc1 := Bool.and_eq_true_iff.mp zc
        have zc2 := Bool.and_eq_true_iff.mp zc1.1
        have kk := boxK_iff.mp zc2.1
        have cc := of_decide_eq_true zc2.2
        have k3 := of_decide_eq_true zc1.2
        obtain ⟨f1, f2, f3, f4, f5, -⟩ := hidV_facts (w := w) (nI fi) k c
        obtain ⟨g1, g2, g3, g4, g5, g6, g7, g8⟩ := hidV_new (w := w) (nI fi) k c
        have G1 : WF (hidV w (nI fi) k c) P := by
          refine kp_newb G (by omega) f1 f2 f3 f4 (fun j hj => f5 j (Or.inl hj)) ?_ g3 (fun _ => ⟨⟨fi, hf, g5, kf⟩, ?_, fun h3 => ?_, fun h3 => ?_⟩)
          · show 0 ≤ hI (hidV w (nI fi) k c) 51 (nB w) ∧ _
            rw [g1]
            exact ⟨by grind, by grind⟩
          · show cellOk (hI (hidV w (nI fi) k c) 52 (nB w))
            rw [g6]; exact cc
          · have h3 : hI (hidV w (nI fi) k c) 51 (nB w) = 3 := h3
            rw [g1] at h3
            rw [if_pos h3] at g7
            rw [if_pos h3] at g8
            refine ⟨nS w, k3 h3, s4, g7, fun i hi => ?_⟩
            show cellOk (hI (hidV w (nI fi) k c) 57 (4 * nB w + i))
            rw [g8 i hi]
            obtain ⟨x, hx, e⟩ := G.WS.1 i hi
            rw [e]
            exact ⟨nI_pos' (by omega), by rw [show (60 : Int32) = nI 60 from rfl, nI_ltI (by omega) (by omega)]; exact hx⟩
          · have h3 : hI (hidV w (nI fi) k c) 51 (nB w) ≠ 3 := h3
            rw [g1] at h3
            rw [if_neg h3] at g7
            exact g7
        show WF (wI (hidV w (nI fi) k c) 49 11 0) P
        generalize hidV w (nI fi) k c = w2 at *
        clear f1 f2 f3 f4 f5 g1 g2 g3 g4 g5 g6 g7 g8
        have n1 : WN (wI w2 49 11 0) := G1.WN.fr2 (G1.WN.same (by simp (config := {maxSteps := 5000000}) (disch := omega) only [q_ne, q_atne]) (by simp (config := {maxSteps := 5000000}) (disch := omega) only [q_ne, q_atne])) (Or.inl (by simp (config := {maxSteps := 5000000}) (disch := omega) only [q_ne, q_atne])) (Or.inl (by simp (config := {maxSteps := 5000000}) (disch := omega) only [q_ne, q_atne])) (Or.inl (by simp (config := {maxSteps := 5000000}) (disch := omega) only [q_ne, q_atne])) (Or.inr ⟨0, by omega, q_at⟩) (Or.inl (by simp (config := {maxSteps := 5000000}) (disch := omega) only [q_ne, q_atne])) (Or.inl (by simp (config := {maxSteps := 5000000}) (disch := omega) only [q_ne, q_atne]))
        have z1 : WS (wI w2 49 11 0) := by
          have e0 : nS (wI w2 49 11 0) = 0 := by
            show (hI (wI w2 49 11 0) 49 11).toNatClampNeg = 0
            rw [q_at]; rfl
          refine ⟨fun s hs => ?_, fun x hx => ?_⟩
          · rw [e0] at hs; omega
          · rw [q_ne (by decide)]; exact G1.WS.2 x hx
        have G := G1
        exact ⟨n1, G.WB.fr (by simp (config := {maxSteps := 5000000}) (disch := omega) only [q_ne, q_atne]) (by simp (config := {maxSteps := 5000000}) (disch := omega) only [q_ne, q_atne]) (by simp (config := {maxSteps := 5000000}) (disch := omega) only [q_ne, q_atne]) (by simp (config := {maxSteps := 5000000}) (disch := omega) only [q_ne, q_atne]) (by simp (config := {maxSteps := 5000000}) (disch := omega) only [q_ne, q_atne]) (by simp (config := {maxSteps := 5000000}) (disch := omega) only [q_ne, q_atne]), G.WM.fr (by simp (config := {maxSteps := 5000000}) (disch := omega) only [q_ne, q_atne]) (by simp (config := {maxSteps := 5000000}) (disch := omega) only [q_ne, q_atne]) (by simp (config := {maxSteps := 5000000}) (disch := omega) only [q_ne, q_atne]) (by simp (config := {maxSteps := 5000000}) (disch := omega) only [q_ne, q_atne]) (by simp (config := {maxSteps := 5000000}) (disch := omega) only [q_ne, q_atne]), G.WL.fr (by simp (config := {maxSteps := 5000000}) (disch := omega) only [q_ne, q_atne]) (by simp (config := {maxSteps := 5000000}) (disch := omega) only [q_ne, q_atne]) (by simp (config := {maxSteps := 5000000}) (disch := omega) only [q_ne, q_atne]) (by simp (config := {maxSteps := 5000000}) (disch := omega) only [q_ne, q_atne]) (by simp (config := {maxSteps := 5000000}) (disch := omega) only [q_ne, q_atne]) (by simp (config := {maxSteps := 5000000}) (disch := omega) only [q_ne, q_atne]) (by simp (config := {maxSteps := 5000000}) (disch := omega) only [q_ne, q_atne]), G.WP.fr (by simp (config := {maxSteps := 5000000}) (disch := omega) only [q_ne, q_atne]) (by simp (config := {maxSteps := 5000000}) (disch := omega) only [q_ne, q_atne]) (by simp (config := {maxSteps := 5000000}) (disch := omega) only [q_ne, q_atne]) (by simp (config := {maxSteps := 5000000}) (disch := omega) only [q_ne, q_atne]), G.WA.fr (by simp (config := {maxSteps := 5000000}) (disch := omega) only [q_ne, q_atne]) (by simp (config := {maxSteps := 5000000}) (disch := omega) only [q_ne, q_atne]) (by simp (config := {maxSteps := 5000000}) (disch := omega) only [q_ne, q_atne]) (by simp (config := {maxSteps := 5000000}) (disch := omega) only [q_ne, q_atne]), G.WT.fr (by simp (config := {maxSteps := 5000000}) (disch := omega) only [q_ne, q_atne]) (by simp (config := {maxSteps := 5000000}) (disch := omega) only [q_ne, q_atne]) (by simp (config := {maxSteps := 5000000}) (disch := omega) only [q_ne, q_atne]) (by simp (config := {maxSteps := 5000000}) (disch := omega) only [q_ne, q_atne]) (by simp (config := {maxSteps := 5000000}) (disch := omega) only [q_ne, q_atne]) (by simp (config := {maxSteps := 5000000}) (disch := omega) only [q_ne, q_atne]), z1, G.WV.fr (by simp (config := {maxSteps := 5000000}) (disch := omega) only [q_ne, q_atne]) (by simp (config := {maxSteps := 5000000}) (disch := omega) only [q_ne, q_atne]), G.WH.fr (by simp (config := {maxSteps := 5000000}) (disch := omega) only [q_ne, q_atne]) (by simp (config := {maxSteps := 5000000}) (disch := omega) only [q_ne, q_atne]) (by simp (config := {maxSteps := 5000000}) (disch := omega) only [q_ne, q_atne]), G.WG.fr (by simp (config := {maxSteps := 5000000}) (disch := omega) only [q_ne, q_atne]), G.WK.fr (by simp (config := {maxSteps := 5000000}) (disch := omega) only [q_ne, q_atne]) (by simp (config := {maxSteps := 5000000}) (disch := omega) only [q_ne, q_atne]) (by simp (config := {maxSteps := 5000000}) (disch := omega) only [q_ne, q_atne]), G.WF1.fr (by simp (config := {maxSteps := 5000000}) (disch := omega) only [q_ne, q_atne]), G.WBy.fr (by simp (config := {maxSteps := 5000000}) (disch := omega) only [q_ne, q_atne]), G.WD.fr (by simp (config := {maxSteps := 5000000}) (disch := omega) only [q_ne, q_atne]) (by simp (config := {maxSteps := 5000000}) (disch := omega) only [q_ne, q_atne]) (by simp (config := {maxSteps := 5000000}) (disch := omega) only [q_ne, q_atne]) (by simp (config := {maxSteps := 5000000}) (disch := omega) only [q_ne, q_atne]) (by simp (config := {maxSteps := 5000000}) (disch := omega) only [q_ne, q_atne]) (by simp (config := {maxSteps := 5000000}) (disch := omega) only [q_ne, q_atne]) (by simp (config := {maxSteps := 5000000}) (disch := omega) only [q_ne, q_atne]), G.WWo.fr (by simp (config := {maxSteps := 5000000}) (disch := omega) only [q_ne, q_atne]) (by simp (config := {maxSteps := 5000000}) (disch := omega) only [q_ne, q_atne]) (by simp (config := {maxSteps := 5000000}) (disch := omega) only [q_ne, q_atne]) (by simp (config := {maxSteps := 5000000}) (disch := omega) only [q_ne, q_atne]) (by simp (config := {maxSteps := 5000000}) (disch := omega) only [q_ne, q_atne]) (by simp (config := {maxSteps := 5000000}) (disch := omega) only [q_ne, q_atne]), G.WZr.fr (by simp (config := {maxSteps := 5000000}) (disch := omega) only [q_ne, q_atne]) (by simp (config := {maxSteps := 5000000}) (disch := omega) only [q_ne, q_atne]) (by simp (config := {maxSteps := 5000000}) (disch := omega) only [q_ne, q_atne]) (by simp (config := {maxSteps := 5000000}) (disch := omega) only [q_ne, q_atne])⟩
    · exact G
  · rw [if_neg z]; exact G
theorem kp_rule (G : WF w P) (use d : Int32) (gw : ∀ j q, tkT w = .ok (j, q) → WG (ruleW w use d) (ruleP w P q)) : WF (s_rule w P use d).2.1 (s_rule w P use d).2.2 := by
  unfold s_rule
  by_cases z : isUse_ use = true ∧ 0 ≤ d ∧ d ≤ 999
  · rw [if_pos z]
    by_cases c : nT w = 20
    · rw [if_pos c]; exact G
    · rw [if_neg c]
      have t20 := G.WN.t20
      cases e : tkT w with
      | error p =>
        show WF (wI w 49 25 0) P
        have f1 : WF1 (wI w 49 25 0) := ⟨0, by omega, q_at⟩
        exact ⟨G.WN.fr (by simp (config := {maxSteps := 5000000}) (disch := omega) only [q_ne, q_atne]) (by simp (config := {maxSteps := 5000000}) (disch := omega) only [q_ne, q_atne]) (by simp (config := {maxSteps := 5000000}) (disch := omega) only [q_ne, q_atne]) (by simp (config := {maxSteps := 5000000}) (disch := omega) only [q_ne, q_atne]) (by simp (config := {maxSteps := 5000000}) (disch := omega) only [q_ne, q_atne]) (by simp (config := {maxSteps := 5000000}) (disch := omega) only [q_ne, q_atne]) (by simp (config := {maxSteps := 5000000}) (disch := omega) only [q_ne, q_atne]) (by simp (config := {maxSteps := 5000000}) (disch := omega) only [q_ne, q_atne]), G.WB.fr (by simp (config := {maxSteps := 5000000}) (disch := omega) only [q_ne, q_atne]) (by simp (config := {maxSteps := 5000000}) (disch := omega) only [q_ne, q_atne]) (by simp (config := {maxSteps := 5000000}) (disch := omega) only [q_ne, q_atne]) (by simp (config := {maxSteps := 5000000}) (disch := omega) only [q_ne, q_atne]) (by simp (config := {maxSteps := 5000000}) (disch := omega) only [q_ne, q_atne]) (by simp (config := {maxSteps := 5000000}) (disch := omega) only [q_ne, q_atne]), G.WM.fr (by simp (config := {maxSteps := 5000000}) (disch := omega) only [q_ne, q_atne]) (by simp (config := {maxSteps := 5000000}) (disch := omega) only [q_ne, q_atne]) (by simp (config := {maxSteps := 5000000}) (disch := omega) only [q_ne, q_atne]) (by simp (config := {maxSteps := 5000000}) (disch := omega) only [q_ne, q_atne]) (by simp (config := {maxSteps := 5000000}) (disch := omega) only [q_ne, q_atne]), G.WL.fr (by simp (config := {maxSteps := 5000000}) (disch := omega) only [q_ne, q_atne]) (by simp (config := {maxSteps := 5000000}) (disch := omega) only [q_ne, q_atne]) (by simp (config := {maxSteps := 5000000}) (disch := omega) only [q_ne, q_atne]) (by simp (config := {maxSteps := 5000000}) (disch := omega) only [q_ne, q_atne]) (by simp (config := {maxSteps := 5000000}) (disch := omega) only [q_ne, q_atne]) (by simp (config := {maxSteps := 5000000}) (disch := omega) only [q_ne, q_atne]) (by simp (config := {maxSteps := 5000000}) (disch := omega) only [q_ne, q_atne]), G.WP.fr (by simp (config := {maxSteps := 5000000}) (disch := omega) only [q_ne, q_atne]) (by simp (config := {maxSteps := 5000000}) (disch := omega) only [q_ne, q_atne]) (by simp (config := {maxSteps := 5000000}) (disch := omega) only [q_ne, q_atne]) (by simp (config := {maxSteps := 5000000}) (disch := omega) only [q_ne, q_atne]), G.WA.fr (by simp (config := {maxSteps := 5000000}) (disch := omega) only [q_ne, q_atne]) (by simp (config := {maxSteps := 5000000}) (disch := omega) only [q_ne, q_atne]) (by simp (config := {maxSteps := 5000000}) (disch := omega) only [q_ne, q_atne]) (by simp (config := {maxSteps := 5000000}) (disch := omega) only [q_ne, q_atne]), G.WT.fr (by simp (config := {maxSteps := 5000000}) (disch := omega) only [q_ne, q_atne]) (by simp (config := {maxSteps := 5000000}) (disch := omega) only [q_ne, q_atne]) (by simp (config := {maxSteps := 5000000}) (disch := omega) only [q_ne, q_atne]) (by simp (config := {maxSteps := 5000000}) (disch := omega) only [q_ne, q_atne]) (by simp (config := {maxSteps := 5000000}) (disch := omega) only [q_ne, q_atne]) (by simp (config := {maxSteps := 5000000}) (disch := omega) only [q_ne, q_atne]), G.WS.fr (by simp (config := {maxSteps := 5000000}) (disch := omega) only [q_ne, q_atne]) (by simp (config := {maxSteps := 5000000}) (disch := omega) only [q_ne, q_atne]) (by simp (config := {maxSteps := 5000000}) (disch := omega) only [q_ne, q_atne]), G.WV.fr (by simp (config := {maxSteps := 5000000}) (disch := omega) only [q_ne, q_atne]) (by simp (config := {maxSteps := 5000000}) (disch := omega) only [q_ne, q_atne]), G.WH.fr (by simp (config := {maxSteps := 5000000}) (disch := omega) only [q_ne, q_atne]) (by simp (config := {maxSteps := 5000000}) (disch := omega) only [q_ne, q_atne]) (by simp (config := {maxSteps := 5000000}) (disch := omega) only [q_ne, q_atne]), G.WG.fr (by simp (config := {maxSteps := 5000000}) (disch := omega) only [q_ne, q_atne]), G.WK.fr (by simp (config := {maxSteps := 5000000}) (disch := omega) only [q_ne, q_atne]) (by simp (config := {maxSteps := 5000000}) (disch := omega) only [q_ne, q_atne]) (by simp (config := {maxSteps := 5000000}) (disch := omega) only [q_ne, q_atne]), f1, G.WBy.fr (by simp (config := {maxSteps := 5000000}) (disch := omega) only [q_ne, q_atne]), G.WD.fr (by simp (config := {maxSteps := 5000000}) (disch := omega) only [q_ne, q_atne]) (by simp (config := {maxSteps := 5000000}) (disch := omega) only [q_ne, q_atne]) (by simp (config := {maxSteps := 5000000}) (disch := omega) only [q_ne, q_atne]) (by simp (config := {maxSteps := 5000000}) (disch := omega) only [q_ne, q_atne]) (by simp (config := {maxSteps := 5000000}) (disch := omega) only [q_ne, q_atne]) (by simp (config := {maxSteps := 5000000}) (disch := omega) only [q_ne, q_atne]) (by simp (config := {maxSteps := 5000000}) (disch := omega) only [q_ne, q_atne]), G.WWo.fr (by simp (config := {maxSteps := 5000000}) (disch := omega) only [q_ne, q_atne]) (by simp (config := {maxSteps := 5000000}) (disch := omega) only [q_ne, q_atne]) (by simp (config := {maxSteps := 5000000}) (disch := omega) only [q_ne, q_atne]) (by simp (config := {maxSteps := 5000000}) (disch := omega) only [q_ne, q_atne]) (by simp (config := {maxSteps := 5000000}) (disch := omega) only [q_ne, q_atne]) (by simp (config := {maxSteps := 5000000}) (disch := omega) only [q_ne, q_atne]), G.WZr.fr (by simp (config := {maxSteps := 5000000}) (disch := omega) only [q_ne, q_atne]) (by simp (config := {maxSteps := 5000000}) (disch := omega) only [q_ne, q_atne]) (by simp (config := {maxSteps := 5000000}) (disch := omega) only [q_ne, q_atne]) (by simp (config := {maxSteps := 5000000}) (disch := omega) only [q_ne, q_atne])⟩
      | ok x =>
        obtain ⟨j, q⟩ := x
        show WF (ruleW w use d) (ruleP w P q)
        have eo : ∀ a, a ≠ 49 → a ≠ 69 → a ≠ 70 → a ≠ 71 → hI (ruleW w use d) a = hI w a := fun a h1 h2 h3 h4 => by unfold ruleW; rw [q_ne h1, q_ne h4, q_ne h3, q_ne h2, q_ne h1]
        have e49 : ∀ k, k ≠ 25 → k ≠ 33 → hI (ruleW w use d) 49 k = hI w 49 k := fun k h1 h2 => by unfold ruleW; rw [q_atne h2, q_ne (by decide), q_ne (by decide), q_ne (by decide), q_atne h1]
        have e25 : hI (ruleW w use d) 49 25 = 0 := by unfold ruleW; rw [q_atne (by decide), q_ne (by decide), q_ne (by decide), q_ne (by decide), q_at]
        have e33 : hI (ruleW w use d) 49 33 = nI (nT w + 1) := q_at
        have eT : nT (ruleW w use d) = nT w + 1 := by
          show (hI (ruleW w use d) 49 33).toNatClampNeg = _
          rw [e33, nI_clamp (by omega)]
        have g1 : WG (ruleW w use d) (ruleP w P q) := gw _ _ e
        generalize ruleW w use d = w1 at *
        have n1 : WN w1 := G.WN.fr2 (G.WN.same (e49 3 (by decide) (by decide)) (eo 51 (by decide) (by decide) (by decide) (by decide))) (Or.inl (e49 13 (by decide) (by decide))) (Or.inl (e49 17 (by decide) (by decide))) (Or.inr ⟨nT w + 1, by omega, e33⟩) (Or.inl (e49 11 (by decide) (by decide))) (Or.inl (e49 65 (by decide) (by decide))) (Or.inl (e49 1 (by decide) (by decide)))
        have f1 : WF1 w1 := ⟨0, by omega, e25⟩
        exact ⟨n1, G.WB.fr (by first | exact eo _ (by decide) (by decide) (by decide) (by decide) | exact e49 _ (by decide) (by decide)) (by first | exact eo _ (by decide) (by decide) (by decide) (by decide) | exact e49 _ (by decide) (by decide)) (by first | exact eo _ (by decide) (by decide) (by decide) (by decide) | exact e49 _ (by decide) (by decide)) (by first | exact eo _ (by decide) (by decide) (by decide) (by decide) | exact e49 _ (by decide) (by decide)) (by first | exact eo _ (by decide) (by decide) (by decide) (by decide) | exact e49 _ (by decide) (by decide)) (by first | exact eo _ (by decide) (by decide) (by decide) (by decide) | exact e49 _ (by decide) (by decide)), G.WM.fr (by first | exact eo _ (by decide) (by decide) (by decide) (by decide) | exact e49 _ (by decide) (by decide)) (by first | exact eo _ (by decide) (by decide) (by decide) (by decide) | exact e49 _ (by decide) (by decide)) (by first | exact eo _ (by decide) (by decide) (by decide) (by decide) | exact e49 _ (by decide) (by decide)) (by first | exact eo _ (by decide) (by decide) (by decide) (by decide) | exact e49 _ (by decide) (by decide)) (by first | exact eo _ (by decide) (by decide) (by decide) (by decide) | exact e49 _ (by decide) (by decide)), G.WL.fr (by first | exact eo _ (by decide) (by decide) (by decide) (by decide) | exact e49 _ (by decide) (by decide)) (by first | exact eo _ (by decide) (by decide) (by decide) (by decide) | exact e49 _ (by decide) (by decide)) (by first | exact eo _ (by decide) (by decide) (by decide) (by decide) | exact e49 _ (by decide) (by decide)) (by first | exact eo _ (by decide) (by decide) (by decide) (by decide) | exact e49 _ (by decide) (by decide)) (by first | exact eo _ (by decide) (by decide) (by decide) (by decide) | exact e49 _ (by decide) (by decide)) (by first | exact eo _ (by decide) (by decide) (by decide) (by decide) | exact e49 _ (by decide) (by decide)) (by first | exact eo _ (by decide) (by decide) (by decide) (by decide) | exact e49 _ (by decide) (by decide)), G.WP.fr (by first | exact eo _ (by decide) (by decide) (by decide) (by decide) | exact e49 _ (by decide) (by decide)) (by first | exact eo _ (by decide) (by decide) (by decide) (by decide) | exact e49 _ (by decide) (by decide)) (by first | exact eo _ (by decide) (by decide) (by decide) (by decide) | exact e49 _ (by decide) (by decide)) (by first | exact eo _ (by decide) (by decide) (by decide) (by decide) | exact e49 _ (by decide) (by decide)), G.WA.fr (by first | exact eo _ (by decide) (by decide) (by decide) (by decide) | exact e49 _ (by decide) (by decide)) (by first | exact eo _ (by decide) (by decide) (by decide) (by decide) | exact e49 _ (by decide) (by decide)) (by first | exact eo _ (by decide) (by decide) (by decide) (by decide) | exact e49 _ (by decide) (by decide)) (by first | exact eo _ (by decide) (by decide) (by decide) (by decide) | exact e49 _ (by decide) (by decide)), G.WT.fr (by first | exact eo _ (by decide) (by decide) (by decide) (by decide) | exact e49 _ (by decide) (by decide)) (by first | exact eo _ (by decide) (by decide) (by decide) (by decide) | exact e49 _ (by decide) (by decide)) (by first | exact eo _ (by decide) (by decide) (by decide) (by decide) | exact e49 _ (by decide) (by decide)) (by first | exact eo _ (by decide) (by decide) (by decide) (by decide) | exact e49 _ (by decide) (by decide)) (by first | exact eo _ (by decide) (by decide) (by decide) (by decide) | exact e49 _ (by decide) (by decide)) (by first | exact eo _ (by decide) (by decide) (by decide) (by decide) | exact e49 _ (by decide) (by decide)), G.WS.fr (by first | exact eo _ (by decide) (by decide) (by decide) (by decide) | exact e49 _ (by decide) (by decide)) (by first | exact eo _ (by decide) (by decide) (by decide) (by decide) | exact e49 _ (by decide) (by decide)) (by first | exact eo _ (by decide) (by decide) (by decide) (by decide) | exact e49 _ (by decide) (by decide)), G.WV.fr (by first | exact eo _ (by decide) (by decide) (by decide) (by decide) | exact e49 _ (by decide) (by decide)) (by first | exact eo _ (by decide) (by decide) (by decide) (by decide) | exact e49 _ (by decide) (by decide)), G.WH.fr (by first | exact eo _ (by decide) (by decide) (by decide) (by decide) | exact e49 _ (by decide) (by decide)) (by first | exact eo _ (by decide) (by decide) (by decide) (by decide) | exact e49 _ (by decide) (by decide)) (by first | exact eo _ (by decide) (by decide) (by decide) (by decide) | exact e49 _ (by decide) (by decide)), g1, G.WK.fr (by first | exact eo _ (by decide) (by decide) (by decide) (by decide) | exact e49 _ (by decide) (by decide)) (by first | exact eo _ (by decide) (by decide) (by decide) (by decide) | exact e49 _ (by decide) (by decide)) (by first | exact eo _ (by decide) (by decide) (by decide) (by decide) | exact e49 _ (by decide) (by decide)), f1, G.WBy.fr (by first | exact eo _ (by decide) (by decide) (by decide) (by decide) | exact e49 _ (by decide) (by decide)), G.WD.fr (by first | exact eo _ (by decide) (by decide) (by decide) (by decide) | exact e49 _ (by decide) (by decide)) (by first | exact eo _ (by decide) (by decide) (by decide) (by decide) | exact e49 _ (by decide) (by decide)) (by first | exact eo _ (by decide) (by decide) (by decide) (by decide) | exact e49 _ (by decide) (by decide)) (by first | exact eo _ (by decide) (by decide) (by decide) (by decide) | exact e49 _ (by decide) (by decide)) (by first | exact eo _ (by decide) (by decide) (by decide) (by decide) | exact e49 _ (by decide) (by decide)) (by first | exact eo _ (by decide) (by decide) (by decide) (by decide) | exact e49 _ (by decide) (by decide)) (by first | exact eo _ (by decide) (by decide) (by decide) (by decide) | exact e49 _ (by decide) (by decide)), G.WWo.fr (by first | exact eo _ (by decide) (by decide) (by decide) (by decide) | exact e49 _ (by decide) (by decide)) (by first | exact eo _ (by decide) (by decide) (by decide) (by decide) | exact e49 _ (by decide) (by decide)) (by first | exact eo _ (by decide) (by decide) (by decide) (by decide) | exact e49 _ (by decide) (by decide)) (by first | exact eo _ (by decide) (by decide) (by decide) (by decide) | exact e49 _ (by decide) (by decide)) (by first | exact eo _ (by decide) (by decide) (by decide) (by decide) | exact e49 _ (by decide) (by decide)) (by first | exact eo _ (by decide) (by decide) (by decide) (by decide) | exact e49 _ (by decide) (by decide)), G.WZr.fr (by first | exact eo _ (by decide) (by decide) (by decide) (by decide) | exact e49 _ (by decide) (by decide)) (by first | exact eo _ (by decide) (by decide) (by decide) (by decide) | exact e49 _ (by decide) (by decide)) (by first | exact eo _ (by decide) (by decide) (by decide) (by decide) | exact e49 _ (by decide) (by decide)) (by first | exact eo _ (by decide) (by decide) (by decide) (by decide) | exact e49 _ (by decide) (by decide))⟩
  · rw [if_neg z]; exact G
end
