/-! THE START: what stands in the heap, and the end of it all -/
theorem q_IfI (h : AH) (a n : Nat) (v : Int32) (b j : Nat) : hI (fillI h a n v) b j = if b = a ∧ j < n then v else hI h b j := id rfl
def iH : AH := wI (wI (wI (wI (wI (wI (wI (wI (wI (wI (fillI h0 2 60 (-1)) 8 2 (-1)) 28 1 (-1)) 49 75 (-1)) 49 76 (-1)) 103 0 (-1)) 103 1 (-1)) 103 2 (-1)) 103 3 (-1)) 103 4 (-1)) 103 5 (-1)
theorem fillI_cg {h g : AH} (e : hI h = hI g) (a n : Nat) (v : Int32) : hI (fillI h a n v) = hI (fillI g a n v) := by
  funext b j
  rw [q_IfI, q_IfI, e]
theorem Zr.f {h : AH} (z : Zr h) {a : Nat} (ha : a < (hS h).length) (n : Nat) (v : Int32) : Zr (fillI h a n v) := fun b hb j => by
  rw [q_IfI, if_neg (by have : (hS h).length ≤ b := hb; omega)]
  exact z b hb j
theorem s_sh_z {f : Nat → Nat → Int32} (z : Zr s_s20) (e : hI s_s20 = f) : ∀ j, Zr (s_sh j) ∧ hI (s_sh j) = f := by
  intro j
  induction j with
  | zero => exact ⟨z, e⟩
  | succ j ih =>
    obtain ⟨z1, e1⟩ := ih.1.gr 7 5
    obtain ⟨z2, e2⟩ := Zr.aft (o := 36 + 2 * j) [(24, 60, 4)] z1
    exact ⟨z2, e2.trans (e1.trans ih.2)⟩
theorem s_I : hI s_s22 = hI (wI (wI (fillI h0 2 60 (-1)) 8 2 (-1)) 28 1 (-1)) := by
  have z0 : Zr h0 := fun a _ k => rfl
  obtain ⟨z, e⟩ : Zr s_s0 ∧ hI s_s0 = hI h0 := z0.gr 11 6
  obtain ⟨z, e⟩ : Zr s_s1 ∧ hI s_s1 = hI h0 := ⟨(z.gr 3 10).1, (z.gr 3 10).2.trans e⟩
  obtain ⟨z, e⟩ : Zr s_s2 ∧ hI s_s2 = hI h0 := ⟨(Zr.aft _ z).1, (Zr.aft _ z).2.trans e⟩
  obtain ⟨z, e⟩ : Zr s_s4 ∧ hI s_s4 = hI (fillI h0 2 60 (-1)) := ⟨z.f (a := 2) (by decide +kernel) 60 (-1), fillI_cg e 2 60 (-1)⟩
  obtain ⟨z, e⟩ : Zr s_s5 ∧ hI s_s5 = hI (fillI h0 2 60 (-1)) := ⟨(z.gr 6 16).1, (z.gr 6 16).2.trans e⟩
  obtain ⟨z, e⟩ : Zr s_s6 ∧ hI s_s6 = hI (fillI h0 2 60 (-1)) := ⟨(z.gr 8 11).1, (z.gr 8 11).2.trans e⟩
  obtain ⟨z, e⟩ : Zr s_s7 ∧ hI s_s7 = hI (fillI h0 2 60 (-1)) := ⟨(Zr.aft _ z).1, (Zr.aft _ z).2.trans e⟩
  have z : Zr (wR s_s7 8 0 (some 9)) := z
  obtain ⟨z, e⟩ : Zr s_s8 ∧ hI s_s8 = hI (wI (fillI h0 2 60 (-1)) 8 2 (-1)) := ⟨z.w (a := 8) (by decide +kernel) 2 (-1), wI_cg (h := wR s_s7 8 0 (some 9)) e 8 2 (-1)⟩
  obtain ⟨z, e⟩ : Zr s_s11 ∧ hI s_s11 = hI (wI (fillI h0 2 60 (-1)) 8 2 (-1)) := ⟨(Zr.aft (o := 8) _ z).1, (Zr.aft (o := 8) _ z).2.trans e⟩
  obtain ⟨z, e⟩ : Zr s_s12 ∧ hI s_s12 = hI (wI (fillI h0 2 60 (-1)) 8 2 (-1)) := ⟨(z.gr 4 9).1, (z.gr 4 9).2.trans e⟩
  obtain ⟨z, e⟩ : Zr s_s15 ∧ hI s_s15 = hI (wI (fillI h0 2 60 (-1)) 8 2 (-1)) := ⟨(Zr.aft (o := 21) _ z).1, (Zr.aft (o := 21) _ z).2.trans e⟩
  obtain ⟨z, e⟩ : Zr s_s16 ∧ hI s_s16 = hI (wI (fillI h0 2 60 (-1)) 8 2 (-1)) := ⟨(z.gr 10 16).1, (z.gr 10 16).2.trans e⟩
  obtain ⟨z, e⟩ : Zr (wI s_s16 28 1 (-1)) ∧ hI (wI s_s16 28 1 (-1)) = hI (wI (wI (fillI h0 2 60 (-1)) 8 2 (-1)) 28 1 (-1)) := ⟨z.w (a := 28) (by decide +kernel) 1 (-1), wI_cg e 28 1 (-1)⟩
  obtain ⟨z, e⟩ : Zr s_s18 ∧ hI s_s18 = hI (wI (wI (fillI h0 2 60 (-1)) 8 2 (-1)) 28 1 (-1)) := ⟨(Zr.aft (o := 28) _ z).1, (Zr.aft (o := 28) _ z).2.trans e⟩
  obtain ⟨z, e⟩ : Zr s_s20 ∧ hI s_s20 = hI (wI (wI (fillI h0 2 60 (-1)) 8 2 (-1)) 28 1 (-1)) := ⟨(z.gr 27 6).1, (z.gr 27 6).2.trans e⟩
  obtain ⟨z, e⟩ := s_sh_z z e 6
  obtain ⟨z, e⟩ : Zr s_s22 ∧ hI s_s22 = hI (wI (wI (fillI h0 2 60 (-1)) 8 2 (-1)) 28 1 (-1)) := ⟨(z.gr 20 25).1, (z.gr 20 25).2.trans e⟩
  exact e
theorem iH_0 {a : Nat} (h1 : a ≠ 2) (h2 : a ≠ 8) (h3 : a ≠ 28) (h4 : a ≠ 49) (h5 : a ≠ 103) : hI iH a = fun _ => 0 := by
  unfold iH
  rw [q_ne h5, q_ne h5, q_ne h5, q_ne h5, q_ne h5, q_ne h5, q_ne h4, q_ne h4, q_ne h3, q_ne h2]
  funext k
  rw [q_IfI, if_neg (fun q => h1 q.1)]
  rfl
theorem iH_2 {k : Nat} (h : k < 60) : hI iH 2 k = -1 := by
  unfold iH
  rw [q_ne (by decide), q_ne (by decide), q_ne (by decide), q_ne (by decide), q_ne (by decide), q_ne (by decide), q_ne (by decide), q_ne (by decide), q_ne (by decide), q_ne (by decide), q_IfI, if_pos ⟨rfl, h⟩]
theorem iH_49 {k : Nat} (h1 : k ≠ 75) (h2 : k ≠ 76) : hI iH 49 k = 0 := by
  unfold iH
  rw [q_ne (by decide), q_ne (by decide), q_ne (by decide), q_ne (by decide), q_ne (by decide), q_ne (by decide), q_atne h2, q_atne h1, q_ne (by decide), q_ne (by decide), q_IfI, if_neg (fun q => absurd q.1 (by decide))]
  rfl
theorem iH_8 {k : Nat} (h1 : k ≠ 2) : hI iH 8 k = 0 := by
  unfold iH
  rw [q_ne (by decide), q_ne (by decide), q_ne (by decide), q_ne (by decide), q_ne (by decide), q_ne (by decide), q_ne (by decide), q_ne (by decide), q_ne (by decide), q_atne h1, q_IfI, if_neg (fun q => absurd q.1 (by decide))]
  rfl
theorem iH_28 {k : Nat} : hI iH 28 k = if k = 1 then -1 else 0 := by
  unfold iH
  rw [q_ne (by decide), q_ne (by decide), q_ne (by decide), q_ne (by decide), q_ne (by decide), q_ne (by decide), q_ne (by decide), q_ne (by decide), q_II]
  by_cases c : k = 1
  · rw [if_pos ⟨rfl, c⟩, if_pos c]
  · rw [if_neg (fun q => c q.2), if_neg c, q_ne (by decide), q_IfI, if_neg (fun q => absurd q.1 (by decide))]
    rfl
theorem iH_75 : hI iH 49 75 = -1 ∧ hI iH 49 76 = -1 := by
  unfold iH
  rw [q_ne (by decide), q_ne (by decide), q_ne (by decide), q_ne (by decide), q_ne (by decide), q_ne (by decide), q_atne (by decide), q_at, q_at]
  exact ⟨rfl, rfl⟩
theorem iH_103 : ∀ s, s < 6 → hI iH 103 s = -1 := by
  intro s hs
  unfold iH
  simp only [q_II]
  have : s = 0 ∨ s = 1 ∨ s = 2 ∨ s = 3 ∨ s = 4 ∨ s = 5 := by omega
  rcases this with rfl | rfl | rfl | rfl | rfl | rfl <;> simp
/-- the class's heap, the world's cells laid into it -/
def hx : AH := (s_s22.1, iH.2.1, s_s22.2.2.1, s_s22.2.2.2)
theorem s_S : (hS hx).length = 49 ∧ ∀ a, a < 49 → (hS hx)[a]? = some (tS a) := ⟨by decide +kernel, by decide +kernel⟩
theorem s_R : (∀ q ∈ tR, hR hx q.1 q.2.1 = some q.2.2) ∧ ∀ s, s < 6 → hR hx (36 + 2 * s) 0 = none := by decide +kernel
theorem s_inv : (∃ ad, RC hx hx (fun _ => []) ad) ∧ WF hx (fun _ => []) := by
  have I : hI hx = hI iH := rfl
  obtain ⟨S1, S2⟩ := s_S
  obtain ⟨R1, R2⟩ := s_R
  have l : Lay hx := ⟨S2, R1⟩
  have o : ∀ {a : Nat}, a ≠ 2 → a ≠ 8 → a ≠ 28 → a ≠ 49 → a ≠ 103 → hI hx a = fun _ => 0 := fun h1 h2 h3 h4 h5 => by rw [I]; exact iH_0 h1 h2 h3 h4 h5
  have o2 : ∀ {k : Nat}, k < 60 → hI hx 2 k = -1 := fun h => by rw [I]; exact iH_2 h
  have o49 : ∀ {k : Nat}, k ≠ 75 → k ≠ 76 → hI hx 49 k = 0 := fun h1 h2 => by rw [I]; exact iH_49 h1 h2
  have o8 : ∀ {k : Nat}, k ≠ 2 → hI hx 8 k = 0 := fun h => by rw [I]; exact iH_8 h
  have o28 : ∀ {k : Nat}, hI hx 28 k = if k = 1 then -1 else 0 := by rw [I]; exact iH_28
  have o75 : hI hx 49 75 = -1 ∧ hI hx 49 76 = -1 := by rw [I]; exact iH_75
  have o103 : ∀ s, s < 6 → hI hx 103 s = -1 := by rw [I]; exact iH_103
  generalize hx = h at *
  clear I
  have n0 : nB h = 0 := by unfold nB; rw [o49 (by decide) (by decide)]; rfl
  have m0 : nM h = 0 := by unfold nM; rw [o49 (by decide) (by decide)]; rfl
  have l0 : nL h = 0 := by unfold nL; rw [o49 (by decide) (by decide)]; rfl
  have t0 : nT h = 0 := by unfold nT; rw [o49 (by decide) (by decide)]; rfl
  have S0 : nS h = 0 := by unfold nS; rw [o49 (by decide) (by decide)]; rfl
  have w0 : nW h = 0 := by unfold nW; rw [o49 (by decide) (by decide)]; rfl
  have z : ∀ {a : Nat} (k : Nat), a ≠ 2 → a ≠ 8 → a ≠ 28 → a ≠ 49 → a ≠ 103 → hI h a k = 0 := fun k h1 h2 h3 h4 h5 => by rw [o h1 h2 h3 h4 h5]
  have nz : (0 : Int32) = nI 0 := rfl
  refine ⟨⟨fun _ => 49, l, ?_, ?_, ?_, ?_, ?_, ?_, ?_, ?_, ?_, ?_⟩, ?_⟩
  · refine ⟨?_, fun c hc => ?_, ?_, ?_⟩
    · rw [z 0 (by decide) (by decide) (by decide) (by decide) (by decide), o49 (by decide) (by decide)]
    · rw [o2 hc, z c (by decide) (by decide) (by decide) (by decide) (by decide)]; decide
    · rw [z 5 (by decide) (by decide) (by decide) (by decide) (by decide), o49 (by decide) (by decide)]
    · rw [o (by decide) (by decide) (by decide) (by decide) (by decide), o (by decide) (by decide) (by decide) (by decide) (by decide)]
  · refine ⟨?_, ?_, ?_, ?_⟩
    · rw [z 9 (by decide) (by decide) (by decide) (by decide) (by decide), o49 (by decide) (by decide)]
    · rw [o (by decide) (by decide) (by decide) (by decide) (by decide), o (by decide) (by decide) (by decide) (by decide) (by decide)]
    · rw [o (by decide) (by decide) (by decide) (by decide) (by decide), o (by decide) (by decide) (by decide) (by decide) (by decide)]
    · rw [o (by decide) (by decide) (by decide) (by decide) (by decide), o (by decide) (by decide) (by decide) (by decide) (by decide)]
  · refine ⟨?_, ?_, ?_, ?_, ?_⟩
    · rw [z 2 (by decide) (by decide) (by decide) (by decide) (by decide), o49 (by decide) (by decide)]
    · rw [o (by decide) (by decide) (by decide) (by decide) (by decide), o (by decide) (by decide) (by decide) (by decide) (by decide)]
    · rw [o (by decide) (by decide) (by decide) (by decide) (by decide), o (by decide) (by decide) (by decide) (by decide) (by decide)]
    · rw [o (by decide) (by decide) (by decide) (by decide) (by decide), o (by decide) (by decide) (by decide) (by decide) (by decide)]
    · rw [o (by decide) (by decide) (by decide) (by decide) (by decide), o (by decide) (by decide) (by decide) (by decide) (by decide)]
  · refine ⟨?_, ?_, ?_, ?_, fun t ht => absurd ht (by omega)⟩
    · rw [o8 (by decide), o49 (by decide) (by decide)]
    · rw [o (by decide) (by decide) (by decide) (by decide) (by decide), o (by decide) (by decide) (by decide) (by decide) (by decide)]
    · rw [o (by decide) (by decide) (by decide) (by decide) (by decide), o (by decide) (by decide) (by decide) (by decide) (by decide)]
    · rw [o (by decide) (by decide) (by decide) (by decide) (by decide), o (by decide) (by decide) (by decide) (by decide) (by decide)]
  · refine ⟨?_, fun i hi => ?_⟩
    · rw [z 0 (by decide) (by decide) (by decide) (by decide) (by decide), o49 (by decide) (by decide)]
    · rw [z i (by decide) (by decide) (by decide) (by decide) (by decide), z i (by decide) (by decide) (by decide) (by decide) (by decide)]; decide
  · refine ⟨?_, fun i hi => absurd hi (by omega), ?_, ?_, ?_, ?_, ?_⟩
    · rw [o28, o49 (by decide) (by decide)]; rfl
    · rw [o (by decide) (by decide) (by decide) (by decide) (by decide), o (by decide) (by decide) (by decide) (by decide) (by decide)]
    · rw [o (by decide) (by decide) (by decide) (by decide) (by decide), o (by decide) (by decide) (by decide) (by decide) (by decide)]
    · rw [o28, o75.2]; rfl
    · rw [o28, o75.1]; rfl
    · rw [o (by decide) (by decide) (by decide) (by decide) (by decide), o (by decide) (by decide) (by decide) (by decide) (by decide)]
  · intro s hs
    unfold shelfAt_
    rw [o103 s hs]
    refine ⟨?_, ?_, fun q => absurd q (by decide)⟩
    · rw [R2 s hs]; rfl
    · have : 36 + 2 * s ≠ 2 ∧ 36 + 2 * s ≠ 8 ∧ 36 + 2 * s ≠ 28 ∧ 36 + 2 * s ≠ 49 ∧ 36 + 2 * s ≠ 103 := by omega
      rw [z 1 this.1 this.2.1 this.2.2.1 this.2.2.2.1 this.2.2.2.2]; rfl
  · refine ⟨?_, fun i hi => ?_⟩
    · rw [z 24 (by decide) (by decide) (by decide) (by decide) (by decide), o49 (by decide) (by decide)]
    · rw [z i (by decide) (by decide) (by decide) (by decide) (by decide), z i (by decide) (by decide) (by decide) (by decide) (by decide)]
  · refine ⟨⟨Nat.le_refl _, S1.symm, ?_, fun b hb => absurd hb (by omega)⟩, fun b hb => absurd hb (by omega), fun b hb => absurd hb (by omega), fun b hb => absurd hb (by omega), fun b hb => absurd hb (by omega)⟩
    rw [z 3 (by decide) (by decide) (by decide) (by decide) (by decide), o49 (by decide) (by decide)]
  · exact fun b hb => absurd hb (by omega)
  · refine ⟨?_, fun b hb => absurd hb (by omega), fun b hb => absurd hb (by omega), fun b hb => absurd hb (by omega), fun b hb => absurd hb (by omega), fun b hb => absurd hb (by omega), fun b hb => absurd hb (by omega), ⟨fun s hs => absurd hs (by omega), fun c hc => ?_⟩, Or.inl o75, fun s hs => Or.inl (o103 s hs), fun t ht => absurd ht (by omega), fun b => ?_, ⟨0, by omega, o49 (by decide) (by decide)⟩, fun i hi => ⟨0, by omega, ?_⟩, fun b hb => absurd hb (by omega), fun i hi => absurd hi (by omega), fun b hb => ?_⟩
    · exact WN.ofE ⟨0, by omega, o49 (by decide) (by decide)⟩ ⟨0, by omega, o49 (by decide) (by decide)⟩ ⟨0, by omega, o49 (by decide) (by decide)⟩ ⟨0, by omega, o49 (by decide) (by decide)⟩ ⟨0, by omega, o49 (by decide) (by decide)⟩ ⟨0, by omega, o49 (by decide) (by decide)⟩ (by rw [o49 (by decide) (by decide)]; decide) (fun b hb => absurd hb (by omega))
    · rw [z c (by decide) (by decide) (by decide) (by decide) (by decide)]; decide
    · rw [z b (by decide) (by decide) (by decide) (by decide) (by decide)]
      exact ⟨Or.inl rfl, fun _ => rfl⟩
    · rw [z i (by decide) (by decide) (by decide) (by decide) (by decide)]; decide
    · rw [z b (by decide) (by decide) (by decide) (by decide) (by decide), z b (by decide) (by decide) (by decide) (by decide) (by decide), z b (by decide) (by decide) (by decide) (by decide) (by decide)]
      exact ⟨rfl, rfl, rfl⟩
theorem st_Z : Zs s_s22 hx (fun _ => []) := by
  obtain ⟨⟨ad, R⟩, G⟩ := s_inv
  refine ⟨⟨_, R.ext (M := []) (g := s_s22) G.WH G.WWo.i (List.append_nil _).symm (fun a q hq _ => ?_)⟩, G⟩
  refine ⟨?_, rfl, rfl⟩
  have ha : a < 49 := by
    have := (List.getElem?_eq_some_iff.mp hq).1
    have e := s_S.1
    omega
  rw [s_I]
  exact ((q_ne (show a ≠ 103 by omega)).trans ((q_ne (show a ≠ 103 by omega)).trans ((q_ne (show a ≠ 103 by omega)).trans ((q_ne (show a ≠ 103 by omega)).trans ((q_ne (show a ≠ 103 by omega)).trans ((q_ne (show a ≠ 103 by omega)).trans ((q_ne (show a ≠ 49 by omega)).trans (q_ne (show a ≠ 49 by omega)))))))) : hI iH a = _).symm
theorem st_len : (hS s_s22).length = 49 := by decide +kernel
theorem rst_start : rst s_s0 s_s22 = s_s22 := by
  have h1 : hS s_s0 = [(11, 6)] := rfl
  have eS : rstS (hS s_s0) (hS s_s22) = hS s_s22 := rstS_eq _ _ (by rw [h1, st_len]; decide) (fun k q e c => by
    rw [h1] at e
    have hk : k < 1 := (List.getElem?_eq_some_iff.mp e).1
    rw [show k = 0 by omega] at e
    cases e
    exact absurd c (by decide))
  have hn : ∀ k, ¬ isL s_s0 k = true := fun k e => by
    obtain ⟨q, hq, c⟩ := isL_iff.mp e
    rw [h1] at hq
    have hk : k < 1 := (List.getElem?_eq_some_iff.mp hq).1
    rw [show k = 0 by omega] at hq
    cases hq
    exact absurd c (by decide)
  unfold rst
  rw [eS]
  simp only [hn, if_false]
  rfl
