/-! THE LAW BEFORE ITS TURNS -/
section
variable {β : Type} {h w : AH} {P : Nat → Prog} {Q : β → AH → Prop}
theorem wp_bIl {a n : Nat} (e : (hS h)[a]? = some (28, n)) (hn : n < 2 ^ 31) {i v : Int32} {K : AH → Option (β × AH)} (h0 : 0 ≤ i) (hi : i.toNatClampNeg < n) : wp (bI h 28 (some a) i v K) Q ↔ wp (K (wI h a i.toNatClampNeg v)) Q := by
  rw [wp_bI]
  obtain ⟨V, hV, rfl⟩ := nn_ex h0
  rw [nI_clamp hV] at hi ⊢
  exact ⟨fun z => z.2, fun z => ⟨okA_in e hi hn, z⟩⟩
theorem wp_bIs {g : AH} {a n : Nat} (e : (hS h)[a]? = some (28, n)) (eq : hS g = hS h) (hn : n < 2 ^ 31) {i v : Int32} {K : AH → Option (β × AH)} (h0 : 0 ≤ i) (hi : i.toNatClampNeg < n) : wp (bI g 28 (some a) i v K) Q ↔ wp (K (wI g a i.toNatClampNeg v)) Q := wp_bIl (by rw [eq]; exact e) hn h0 hi
theorem z_callL {α : Type} {ad : Nat → Nat} {w' : AH} {P' : Nat → Prog} {A : Option (α × AH)} {v : α} {K : α → AH → Option (β × AH)} (R : RC h w P ad) (c : wp A (fun r h' => r = v ∧ RC h' w' P' ad ∧ SM h h')) (G : WF w' P') (nb : nB w' = nB w) (k : ∀ h2, Zs h2 w' P' → LQ h h2 → (hS h2).length = (hS h).length → wp (K v h2) Q) : wp (clR h A K) Q := by
  refine wp_clR.mpr (wp_mono c ?_)
  rintro r h' ⟨rfl, R', s⟩
  obtain ⟨eS, ad2, R2⟩ := R'.rst G.WH G.WWo.i s
  refine k _ ⟨⟨ad2, R2⟩, G⟩ (rst_LQ s) ?_
  rw [eS, ← R'.B.1.2.1, nb, R.B.1.2.1]
theorem z_tell2 (Z : Zs h w P) {b n : Nat} (hb : (hS h)[b]? = some (28, n)) (hn1 : 1 ≤ n) (hn : n ≤ 160) (e25 : hI w 49 25 = 0) {K : Int32 → AH → Option (β × AH)} (k : ∀ h2 w2, Zs h2 w2 P → LQ h h2 → (hS h2).length = (hS h).length → TP w w2 (hI h b) n n → wp (K 1 h2) Q) : wp (clR h (f_L_tell (some 0) (some b) (nI n) h) K) Q := by
  obtain ⟨⟨ad, R⟩, G⟩ := Z
  refine wp_clR.mpr (wp_mono (tell_ok R G hb hn1 hn e25) ?_)
  rintro r h' ⟨rfl, s, w2, R', G', T⟩
  obtain ⟨eS, ad2, R2⟩ := R'.rst G'.WH G'.WWo.i s
  refine k _ w2 ⟨⟨ad2, R2⟩, G'⟩ (rst_LQ s) ?_ T
  have nb : nB w2 = nB w := by unfold nB; rw [T.2.1 3 (by decide)]
  rw [eS, ← R'.B.1.2.1, nb, R.B.1.2.1]
theorem z_rule2 (Z : Zs h w P) {q : Prog} {j : Nat} (e : tkT w = .ok (j, q)) (hq : q.all lineB = true) (ht : nT w < 20) {use : Int32} (hu : isUse_ use = true) {K : Int32 → AH → Option (β × AH)} (k : ∀ h2, Zs h2 (ruleW w use 0) (ruleP w P q) → LQ h h2 → (hS h2).length = (hS h).length → wp (K (nI (nT w)) h2) Q) : wp (rO h [11] (some 0) <| clR h (f_X11_rule (some 0) use 0 h) K) Q := by
  obtain ⟨⟨ad, R⟩, G⟩ := Z
  refine wp_rO.mpr ⟨okT0 R.l, wp_clR.mpr (wp_mono (rule_ok R G e hq ht hu) ?_)⟩
  rintro r h' ⟨rfl, s, R', G'⟩
  obtain ⟨eS, ad2, R2⟩ := R'.rst G'.WH G'.WWo.i s
  refine k _ ⟨⟨ad2, R2⟩, G'⟩ (rst_LQ s) ?_
  have nb : nB (ruleW w use 0) = nB w := by
    unfold nB ruleW
    rw [q_atne (by decide), q_ne (by decide), q_ne (by decide), q_ne (by decide), q_atne (by decide)]
  rw [eS, ← R'.B.1.2.1, nb, R.B.1.2.1]
theorem z_owner2 (Z : Zs h w P) (c o : Int32) {K : Int32 → AH → Option (β × AH)} (k : ∀ h2, Zs h2 (s_owner w c o).2 P → LQ h h2 → (hS h2).length = (hS h).length → wp (K (s_owner w c o).1 h2) Q) : wp (rO h [11] (some 0) <| clR h (f_X11_owner (some 0) c o h) K) Q := by
  obtain ⟨⟨ad, R⟩, G⟩ := Z
  refine wp_rO.mpr ⟨okT0 R.l, z_callL R (c_owner R c o) (kp_owner G c o) ?_ k⟩
  unfold s_owner
  split
  · unfold nB; rw [q_ne (by decide)]
  · rfl
theorem wp_and {o : Option (β × AH)} {Q1 Q2 : β → AH → Prop} (a : wp o Q1) (b : wp o Q2) : wp o (fun v h => Q1 v h ∧ Q2 v h) := by
  obtain ⟨x, e, p⟩ := a
  obtain ⟨y, e', q⟩ := b
  rw [e] at e'
  cases e'
  exact ⟨x, e, p, q⟩
theorem z_finder2 (Z : Zs h w P) {c : Int32} (c0 : 0 ≤ c ∧ c < 60) (f : nB w < 150) {K : Int32 → AH → Option (β × AH)} (k : ∀ h2, Zs h2 (wI (addW w 7) 52 (nB w) c) P → LQ h h2 → (hS h2).length = (hS h).length + 1 → wp (K (nI (nB w)) h2) Q) : wp (rO h [11] (some 0) <| clR h (f_X11_finder (some 0) c h) K) Q := by
  obtain ⟨⟨ad, R⟩, G⟩ := Z
  have es : s_finder w c = (nI (nB w), wI (addW w 7) 52 (nB w) c) := by
    unfold s_finder
    rw [if_pos c0, if_neg (by omega)]
  have kp := kp_finder G c
  rw [es] at kp
  refine wp_rO.mpr ⟨okT0 R.l, wp_clR.mpr (wp_mono (wp_and (c_finder R G.WN G.WM G.WL G.WH G.WWo.i G.WK G.WZr c) (c_finderS R G.WN G.WM G.WL G.WH G.WWo.i G.WK G.WZr c c0 (by omega))) ?_)⟩
  rintro r h' ⟨⟨rfl, ⟨ad', R'⟩, s⟩, eh⟩
  rw [es] at R' ⊢
  obtain ⟨eS, ad2, R2⟩ := R'.rst kp.WH kp.WWo.i s
  refine k _ ⟨⟨ad2, R2⟩, kp⟩ (rst_LQ s) ?_
  rw [eS, eh, List.length_append]; rfl
/-- a row of sixteen, written out -/
theorem arr16 (Z : Zs h w P) {c0 c1 c2 c3 c4 c5 c6 c7 c8 c9 c10 c11 c12 c13 c14 c15 : Int32} {K : Option Nat → AH → Option (β × AH)} (k : ∀ g, Zs g w P → hS g = hS h ++ [(28, 16)] → LQ h g → (∀ j, j < 16 → hI g (hS h).length j = [c0, c1, c2, c3, c4, c5, c6, c7, c8, c9, c10, c11, c12, c13, c14, c15].getD j 0) → wp (K (some (hS h).length) g) Q) :
    wp (nO h 28 16 fun v h9 =>
      bI h9 28 v (0 : Int32) c0 fun h10 => bI h10 28 v (1 : Int32) c1 fun h11 => bI h11 28 v (2 : Int32) c2 fun h12 => bI h12 28 v (3 : Int32) c3 fun h13 =>
      bI h13 28 v (4 : Int32) c4 fun h14 => bI h14 28 v (5 : Int32) c5 fun h15 => bI h15 28 v (6 : Int32) c6 fun h16 => bI h16 28 v (7 : Int32) c7 fun h17 =>
      bI h17 28 v (8 : Int32) c8 fun h18 => bI h18 28 v (9 : Int32) c9 fun h19 => bI h19 28 v (10 : Int32) c10 fun h20 => bI h20 28 v (11 : Int32) c11 fun h21 =>
      bI h21 28 v (12 : Int32) c12 fun h22 => bI h22 28 v (13 : Int32) c13 fun h23 => bI h23 28 v (14 : Int32) c14 fun h24 => bI h24 28 v (15 : Int32) c15 fun h25 => K v h25) Q := by
  refine wp_nO.mpr ?_
  have sT : (hS (grow h 28 16))[(hS h).length]? = some (28, 16) := by
    rw [hS_grow, List.getElem?_append_right (Nat.le_refl _), Nat.sub_self]; rfl
  have Z1 := Z.grow 28 16
  have q1 := LQ.grow h 28 16
  have wI_LQ : ∀ g i v, LQ h g → LQ h (wI g (hS h).length i v) := fun g i v q => ⟨q.1, fun a p e c => by
    obtain ⟨y1, y2, y3⟩ := q.2 a p e c
    have hlt := (List.getElem?_eq_some_iff.mp e).1
    exact ⟨y1, (q_ne (by omega)).trans y2, y3⟩⟩
  have hz : ∀ n : Nat, n < 16 → (0 : Int32) ≤ nI n ∧ (nI n).toNatClampNeg < 16 := fun n hn => ⟨nI_pos' (by omega), by rw [nI_clamp (by omega)]; exact hn⟩
  refine (wp_bIs (a := (hS h).length) sT (by rfl) (by omega) (hz 0 (by omega)).1 (hz 0 (by omega)).2).mpr ?_
  refine (wp_bIs (a := (hS h).length) sT (by rfl) (by omega) (hz 1 (by omega)).1 (hz 1 (by omega)).2).mpr ?_
  refine (wp_bIs (a := (hS h).length) sT (by rfl) (by omega) (hz 2 (by omega)).1 (hz 2 (by omega)).2).mpr ?_
  refine (wp_bIs (a := (hS h).length) sT (by rfl) (by omega) (hz 3 (by omega)).1 (hz 3 (by omega)).2).mpr ?_
  refine (wp_bIs (a := (hS h).length) sT (by rfl) (by omega) (hz 4 (by omega)).1 (hz 4 (by omega)).2).mpr ?_
  refine (wp_bIs (a := (hS h).length) sT (by rfl) (by omega) (hz 5 (by omega)).1 (hz 5 (by omega)).2).mpr ?_
  refine (wp_bIs (a := (hS h).length) sT (by rfl) (by omega) (hz 6 (by omega)).1 (hz 6 (by omega)).2).mpr ?_
  refine (wp_bIs (a := (hS h).length) sT (by rfl) (by omega) (hz 7 (by omega)).1 (hz 7 (by omega)).2).mpr ?_
  refine (wp_bIs (a := (hS h).length) sT (by rfl) (by omega) (hz 8 (by omega)).1 (hz 8 (by omega)).2).mpr ?_
  refine (wp_bIs (a := (hS h).length) sT (by rfl) (by omega) (hz 9 (by omega)).1 (hz 9 (by omega)).2).mpr ?_
  refine (wp_bIs (a := (hS h).length) sT (by rfl) (by omega) (hz 10 (by omega)).1 (hz 10 (by omega)).2).mpr ?_
  refine (wp_bIs (a := (hS h).length) sT (by rfl) (by omega) (hz 11 (by omega)).1 (hz 11 (by omega)).2).mpr ?_
  refine (wp_bIs (a := (hS h).length) sT (by rfl) (by omega) (hz 12 (by omega)).1 (hz 12 (by omega)).2).mpr ?_
  refine (wp_bIs (a := (hS h).length) sT (by rfl) (by omega) (hz 13 (by omega)).1 (hz 13 (by omega)).2).mpr ?_
  refine (wp_bIs (a := (hS h).length) sT (by rfl) (by omega) (hz 14 (by omega)).1 (hz 14 (by omega)).2).mpr ?_
  refine (wp_bIs (a := (hS h).length) sT (by rfl) (by omega) (hz 15 (by omega)).1 (hz 15 (by omega)).2).mpr ?_
  refine k _ ((((((((((((((((Z1.wI sT (by decide) _ _).wI (q := (28, 16)) sT (by decide) _ _).wI (q := (28, 16)) sT (by decide) _ _).wI (q := (28, 16)) sT (by decide) _ _).wI (q := (28, 16)) sT (by decide) _ _).wI (q := (28, 16)) sT (by decide) _ _).wI (q := (28, 16)) sT (by decide) _ _).wI (q := (28, 16)) sT (by decide) _ _).wI (q := (28, 16)) sT (by decide) _ _).wI (q := (28, 16)) sT (by decide) _ _).wI (q := (28, 16)) sT (by decide) _ _).wI (q := (28, 16)) sT (by decide) _ _).wI (q := (28, 16)) sT (by decide) _ _).wI (q := (28, 16)) sT (by decide) _ _).wI (q := (28, 16)) sT (by decide) _ _).wI (q := (28, 16)) sT (by decide) _ _) rfl ?_ ?_
  · exact wI_LQ _ _ _ (wI_LQ _ _ _ (wI_LQ _ _ _ (wI_LQ _ _ _ (wI_LQ _ _ _ (wI_LQ _ _ _ (wI_LQ _ _ _ (wI_LQ _ _ _ (wI_LQ _ _ _ (wI_LQ _ _ _ (wI_LQ _ _ _ (wI_LQ _ _ _ (wI_LQ _ _ _ (wI_LQ _ _ _ (wI_LQ _ _ _ (wI_LQ _ _ _ q1)))))))))))))))
  · intro j hj
    have : j = 0 ∨ j = 1 ∨ j = 2 ∨ j = 3 ∨ j = 4 ∨ j = 5 ∨ j = 6 ∨ j = 7 ∨ j = 8 ∨ j = 9 ∨ j = 10 ∨ j = 11 ∨ j = 12 ∨ j = 13 ∨ j = 14 ∨ j = 15 := by omega
    have e : ∀ n : Nat, n < 16 → (nI n).toNatClampNeg = n := fun n hn => nI_clamp (by omega)
    simp only [e 0 (by omega), e 1 (by omega), e 2 (by omega), e 3 (by omega), e 4 (by omega), e 5 (by omega), e 6 (by omega), e 7 (by omega), e 8 (by omega), e 9 (by omega), e 10 (by omega), e 11 (by omega), e 12 (by omega), e 13 (by omega), e 14 (by omega), e 15 (by omega), q_II, true_and]
    rcases this with rfl | rfl | rfl | rfl | rfl | rfl | rfl | rfl | rfl | rfl | rfl | rfl | rfl | rfl | rfl | rfl <;> rfl
end
/-! the world while the texts come -/
def us (t : Nat) : Int32 := if t = 0 then 0 else if t = 1 then 13 else 1
def FV (t : Nat) (w : AH) : Prop := nT w = t ∧ hI w 49 25 = 0 ∧ (hI w 49 1 = 0 ∧ hI w 49 13 = 0 ∧ hI w 49 11 = 0) ∧ (∀ j, 16 ≤ j → hI w 68 j = 0) ∧ ∀ s, s < t → hI w 69 s = us s ∧ hI w 70 s = 0 ∧ hI w 71 s = 0
theorem FV.rule {t n : Nat} {w w2 : AH} {L : Nat → Int32} (F : FV t w) (ht : t < 20) (T : TP w w2 L n n) (hn : n ≤ 16) : FV (t + 1) (ruleW w2 (us t) 0) ∧ nB (ruleW w2 (us t) 0) = nB w ∧ nT w2 = t ∧ hI (ruleW w2 (us t) 0) 50 = hI w 50 := by
  obtain ⟨f1, f2, ⟨f3, f4, f5⟩, f6, f7⟩ := F
  obtain ⟨t1, t2, t3, t4, t5⟩ := T
  have n2 : nT w2 = t := by unfold nT at *; rw [t2 33 (by decide)]; exact f1
  have r49 : ∀ j, j ≠ 25 → j ≠ 33 → hI (ruleW w2 (us t) 0) 49 j = hI w 49 j := fun j h1 h2 => by
    unfold ruleW
    rw [q_atne h2, q_ne (by decide), q_ne (by decide), q_ne (by decide), q_atne h1]
    exact t2 j h1
  have ro : ∀ a, a ≠ 49 → a ≠ 69 → a ≠ 70 → a ≠ 71 → hI (ruleW w2 (us t) 0) a = hI w2 a := fun a h1 h2 h3 h4 => by
    unfold ruleW
    rw [q_ne h1, q_ne h4, q_ne h3, q_ne h2, q_ne h1]
  have r69 : ∀ s, hI (ruleW w2 (us t) 0) 69 s = if s = t then us t else hI w2 69 s := fun s => by
    unfold ruleW
    rw [q_ne (by decide), q_ne (by decide), q_ne (by decide), n2]
    by_cases c : s = t
    · subst c; rw [q_at, if_pos rfl]
    · rw [q_atne c, if_neg c, q_ne (by decide)]
  have r70 : ∀ s, hI (ruleW w2 (us t) 0) 70 s = if s = t then 0 else hI w2 70 s := fun s => by
    unfold ruleW
    rw [q_ne (by decide), q_ne (by decide), n2]
    by_cases c : s = t
    · subst c; rw [q_at, if_pos rfl, t2 1 (by decide)]; exact f3
    · rw [q_atne c, if_neg c, q_ne (by decide), q_ne (by decide)]
  have r71 : ∀ s, hI (ruleW w2 (us t) 0) 71 s = if s = t then 0 else hI w2 71 s := fun s => by
    unfold ruleW
    rw [q_ne (by decide), n2]
    by_cases c : s = t
    · subst c; rw [q_at, if_pos rfl]
    · rw [q_atne c, if_neg c, q_ne (by decide), q_ne (by decide), q_ne (by decide)]
  refine ⟨⟨?_, ?_, ⟨by rw [r49 1 (by decide) (by decide)]; exact f3, by rw [r49 13 (by decide) (by decide)]; exact f4, by rw [r49 11 (by decide) (by decide)]; exact f5⟩, fun j hj => ?_, fun s hs => ?_⟩, by unfold nB; rw [r49 3 (by decide) (by decide)], n2, by rw [ro 50 (by decide) (by decide) (by decide) (by decide)]; exact t1 50 (by decide) (by decide)⟩
  · unfold nT
    rw [show hI (ruleW w2 (us t) 0) 49 33 = nI (nT w2 + 1) from q_at, nI_clamp (by omega), n2]
  · unfold ruleW
    rw [q_atne (by decide), q_ne (by decide), q_ne (by decide), q_ne (by decide), q_at]
  · rw [ro 68 (by decide) (by decide) (by decide) (by decide), t5 j (by omega)]; exact f6 j hj
  · rw [r69, r70, r71]
    by_cases c : s = t
    · subst c
      rw [if_pos rfl, if_pos rfl, if_pos rfl]
      exact ⟨rfl, rfl, rfl⟩
    · rw [if_neg c, if_neg c, if_neg c, t1 69 (by decide) (by decide), t1 70 (by decide) (by decide), t1 71 (by decide) (by decide)]
      exact f7 s (by omega)
