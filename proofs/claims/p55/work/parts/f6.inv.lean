/-! WHAT THE LAW KNOWS at the head of its rows: k the nearness, n boxes -/
def LA (h : AH) : Prop := ((hS h)[55]? = some (28, 60) ∧ (hS h)[56]? = some (28, 60) ∧ (hS h)[57]? = some (28, 3) ∧ (hS h)[58]? = some (29, 60) ∧ (hS h)[119]? = some (28, 60) ∧ (hS h)[120]? = some (30, 60)) ∧ ∀ x, x < 60 → (hS h)[59 + x]? = some (28, 5) ∧ hR h 58 x = some (59 + x)
def LO (h w : AH) : Prop := ∀ c, c < 60 → hI w 50 c = hI h 55 c + 1 ∧ (hI h 55 c = -1 ∨ hI h 55 c = 3 ∨ hI h 55 c = 5)
def LN (h w : AH) : Prop := ∀ f, f < 3 → hI h 57 f = nI (own_ w (nI f))
def bxOk (h w : AH) (x : Nat) : Prop := hI h 56 x = liesNow_ w (3 + x) ∧ hI h 119 x = hI w 56 (3 + x) ∧ hI h (59 + x) 0 = hI w 52 (3 + x) ∧ (∀ s, 1 ≤ s → s ≤ (hI w 56 (3 + x)).toNatClampNeg → hI h (59 + x) s = hI w 57 (4 * (3 + x) + (s - 1))) ∧ hI h 120 x = (if hI w 54 (3 + x) < 0 then 0 else 1)
def LB (h w : AH) (n : Nat) : Prop := (∀ x, x < n → bxOk h w x) ∧ ∀ x, n ≤ x → hI h 120 x = 0
def LI (k : Nat) (h w : AH) (P : Nat → Prog) (n : Nat) : Prop := Zs h w P ∧ Wd k w P n ∧ LA h ∧ LO h w ∧ LN h w ∧ LB h w n
/-- the law's cells of g stand in h as well -/
theorem LA.q {h g : AH} (A : LA h) (q : LQ h g) : LA g := by
  obtain ⟨⟨a1, a2, a3, a4, a5, a6⟩, a7⟩ := A
  refine ⟨⟨(q.2 _ _ a1 (by decide)).1, (q.2 _ _ a2 (by decide)).1, (q.2 _ _ a3 (by decide)).1, (q.2 _ _ a4 (by decide)).1, (q.2 _ _ a5 (by decide)).1, (q.2 _ _ a6 (by decide)).1⟩, fun x hx => ?_⟩
  obtain ⟨b1, b2⟩ := a7 x hx
  exact ⟨(q.2 _ _ b1 (by decide)).1, by rw [(q.2 _ _ a4 (by decide)).2.2]; exact b2⟩
theorem LA.lt {h : AH} (A : LA h) : 121 ≤ (hS h).length := by
  have := (List.getElem?_eq_some_iff.mp A.1.2.2.2.2.2).1
  omega
theorem LI.mv {k n : Nat} {h g w : AH} {P : Nat → Prog} (I : LI k h w P n) (hn : n ≤ 60) (Z : Zs g w P) (A : LA g) (e : ∀ a, 55 ≤ a → a ≤ 120 → a ≠ 58 → hI g a = hI h a) : LI k g w P n := by
  obtain ⟨-, W, -, O, N, B⟩ := I
  refine ⟨Z, W, A, fun c hc => ?_, fun f hf => ?_, fun x hx => ?_, fun x hx => by rw [e 120 (by omega) (by omega) (by omega)]; exact B.2 x hx⟩
  · rw [e 55 (by omega) (by omega) (by omega)]; exact O c hc
  · rw [e 57 (by omega) (by omega) (by omega)]; exact N f hf
  · have := B.1 x hx
    unfold bxOk at *
    rw [e 56 (by omega) (by omega) (by omega), e 119 (by omega) (by omega) (by omega), e 120 (by omega) (by omega) (by omega), e (59 + x) (by omega) (by omega) (by omega)]
    exact this
theorem LA.e {h g : AH} (A : LA h) (q : LQ h g) : ∀ a, 55 ≤ a → a ≤ 120 → a ≠ 58 → hI g a = hI h a := by
  obtain ⟨⟨a1, a2, a3, a4, a5, a6⟩, a7⟩ := A
  intro a h1 h2 h3
  have : a = 55 ∨ a = 56 ∨ a = 57 ∨ a = 119 ∨ a = 120 ∨ ∃ x, x < 60 ∧ a = 59 + x := by
    by_cases c : 59 ≤ a ∧ a < 119
    · exact Or.inr (Or.inr (Or.inr (Or.inr (Or.inr ⟨a - 59, by omega, by omega⟩))))
    · omega
  rcases this with rfl | rfl | rfl | rfl | rfl | ⟨x, hx, rfl⟩
  · exact (q.2 _ _ a1 (by decide)).2.1
  · exact (q.2 _ _ a2 (by decide)).2.1
  · exact (q.2 _ _ a3 (by decide)).2.1
  · exact (q.2 _ _ a5 (by decide)).2.1
  · exact (q.2 _ _ a6 (by decide)).2.1
  · exact (q.2 _ _ (a7 x hx).1 (by decide)).2.1
theorem LI.q {k n : Nat} {h g w : AH} {P : Nat → Prog} (I : LI k h w P n) (hn : n ≤ 60) (Z : Zs g w P) (q : LQ h g) : LI k g w P n := I.mv hn Z (I.2.2.1.q q) (I.2.2.1.e q)
/-- a write behind the law's own rows -/
theorem LI.wT {k n : Nat} {h w : AH} {P : Nat → Prog} (I : LI k h w P n) (hn : n ≤ 60) {T : Nat} (hT : 121 ≤ T) {q : Nat × Nat} (e : (hS h)[T]? = some q) (c : 28 ≤ q.1) (i : Nat) (v : Int32) : LI k (wI h T i v) w P n :=
  I.mv hn (I.1.wI e c i v) I.2.2.1 (fun a h1 h2 _ => q_ne (by omega))
/-- the world changed where none of it looks -/
theorem LI.w {k n : Nat} {h g w u : AH} {P : Nat → Prog} (I : LI k h w P n) (hn : n ≤ 60) (Z : Zs g u P) (q : LQ h g) (s : ∀ j, j ∈ [1, 3, 13, 33] → hI u 49 j = hI w 49 j) (e : ∀ a, a ∈ [50, 51, 52, 54, 55, 56, 57, 59, 60, 69, 70, 71] → hI u a = hI w a) : LI k g u P n := by
  obtain ⟨-, W, A, O, N, B⟩ := I
  have e' := A.e q
  have nb : nB u = nB w := by unfold nB; rw [s 3 (by decide)]
  have nm : nM u = nM w := by unfold nM; rw [s 13 (by decide)]
  have cn : cellNow_ u = cellNow_ w := by funext i; unfold cellNow_; rw [e 59 (by decide), e 60 (by decide), e 52 (by decide), nm]
  have ln : liesNow_ u = liesNow_ w := by funext i; unfold liesNow_; rw [e 51 (by decide), e 57 (by decide), e 56 (by decide), cn]
  have ow : own_ u = own_ w := by
    funext f
    unfold own_
    rw [nb]
    refine cnt_eq (fun i hi => ?_)
    unfold isOut_ isBox_ isBody_
    rw [nb, e 51 (by decide), e 54 (by decide), e 55 (by decide)]
  refine ⟨Z, W.fr (s 33 (by decide)) (s 1 (by decide)) (s 13 (by decide)) (s 3 (by decide)) (e 69 (by decide)) (e 70 (by decide)) (e 71 (by decide)) (e 51 (by decide)) (fun f _ => by rw [e 54 (by decide)]), A.q q, fun c hc => ?_, fun f hf => ?_, fun x hx => ?_, fun x hx => by rw [e' 120 (by omega) (by omega) (by omega)]; exact B.2 x hx⟩
  · rw [e' 55 (by omega) (by omega) (by omega), e 50 (by decide)]; exact O c hc
  · rw [e' 57 (by omega) (by omega) (by omega), ow]; exact N f hf
  · have := B.1 x hx
    unfold bxOk at *
    rw [e' 56 (by omega) (by omega) (by omega), e' 119 (by omega) (by omega) (by omega), e' 120 (by omega) (by omega) (by omega), e' (59 + x) (by omega) (by omega) (by omega), ln, e 56 (by decide), e 52 (by decide), e 57 (by decide), e 54 (by decide)]
    exact this
/-! the calls' answers there -/
section
variable {k n : Nat} {h w : AH} {P : Nat → Prog}
theorem Wd.box (W : Wd k w P n) {x : Nat} (hx : x < n) (hn : n ≤ 100) : isBox_ w (nI (3 + x)) = true := by
  unfold isBox_ isBody_
  rw [nI_clamp (by omega), W.2.2.2.2 x hx, W.2.2.1.2.2]
  have c1 : 0 ≤ nI (3 + x) := nI_pos' (by omega)
  have c2 : nI (3 + x) < nI (3 + n) := by rw [nI_ltI (by omega) (by omega)]; omega
  simp [c1, c2]
theorem Wd.fnd (W : Wd k w P n) {f : Nat} (hf : f < 3) (hn : n ≤ 100) : isFinder_ w (nI f) = true := by
  unfold isFinder_ isBody_
  rw [nI_clamp (by omega), (W.2.2.2.1 f hf).1, W.2.2.1.2.2]
  have c1 : 0 ≤ nI f := nI_pos' (by omega)
  have c2 : nI f < nI (3 + n) := by rw [nI_ltI (by omega) (by omega)]; omega
  simp [c1, c2]
theorem isOut_at {b : Nat} (hb : b < nB w) (h31 : nB w < 2 ^ 31) : isOut_ w (nI b) = (boxK (hI w 51 b) && decide (hI w 54 b < 0)) := by
  unfold isOut_ isBox_ isBody_
  rw [nI_clamp (by omega)]
  have c1 : 0 ≤ nI b := nI_pos' (by omega)
  have c2 : nI b < nI (nB w) := by rw [nI_ltI (by omega) (by omega)]; omega
  simp [c1, c2]
theorem Wd.keep (W : Wd k w P n) (B : WB w) {x : Nat} (hx : x < n) : ∃ f, f < 3 ∧ hI w 55 (3 + x) = nI f := by
  obtain ⟨⟨f, hf, e, k7⟩, -⟩ := B (3 + x) (by rw [W.2.2.1.2.2]; omega) (W.2.2.2.2 x hx)
  refine ⟨f, ?_, e⟩
  by_cases c : f < 3
  · exact c
  · have := W.2.2.2.2 (f - 3) (by rw [W.2.2.1.2.2] at hf; omega)
    rw [show 3 + (f - 3) = f by omega, k7] at this
    exact absurd this (by decide)
/-- the box x is put down -/
theorem LI.down (I : LI k h w P n) (hn : n ≤ 60) {x : Nat} (hx : x < n) (ho : hI w 54 (3 + x) < 0) {g : AH} (Z : Zs g (wI w 54 (3 + x) (hI w 49 1)) P) (q : LQ h g) {f : Nat} (hf : f < 3) (ef : hI w 55 (3 + x) = nI f) : LI k (wI (wI g 57 f (hI g 57 f - 1)) 120 x 1) (wI w 54 (3 + x) (hI w 49 1)) P n := by
  obtain ⟨-, W, A, O, N, B⟩ := I
  have e' := A.e q
  have A2 := A.q q
  have td : hI w 49 1 = 0 := W.2.2.1.1
  have nb : nB w = 3 + n := W.2.2.1.2.2
  have i54 : ∀ b, b ≠ 3 + x → hI (wI w 54 (3 + x) (hI w 49 1)) 54 b = hI w 54 b := fun b hb => q_atne hb
  have o54 : ∀ a, a ≠ 54 → hI (wI w 54 (3 + x) (hI w 49 1)) a = hI w a := fun a ha => q_ne ha
  have a54 : hI (wI w 54 (3 + x) (hI w 49 1)) 54 (3 + x) = 0 := by rw [q_at, td]
  generalize hu : wI w 54 (3 + x) (hI w 49 1) = u at *
  have nu : nB u = nB w := by unfold nB; rw [o54 49 (by decide)]
  have ln : liesNow_ u = liesNow_ w := by
    have cn : cellNow_ u = cellNow_ w := by
      funext i; unfold cellNow_ nM
      rw [o54 59 (by decide), o54 60 (by decide), o54 52 (by decide), o54 49 (by decide)]
    funext i; unfold liesNow_; rw [o54 51 (by decide), o54 57 (by decide), o54 56 (by decide), cn]
  have io : ∀ b, b < nB w → b ≠ 3 + x → isOut_ u (nI b) = isOut_ w (nI b) := fun b hb hne => by
    rw [isOut_at (by omega) (by omega), isOut_at hb (by omega), o54 51 (by decide), i54 b hne]
  have i1 : isOut_ w (nI (3 + x)) = true := by
    rw [isOut_at (by omega) (by omega), W.2.2.2.2 x hx, decide_eq_true ho]; rfl
  have i2 : isOut_ u (nI (3 + x)) = false := by
    rw [isOut_at (by omega) (by omega), a54, decide_eq_false (by decide), Bool.and_false]
  have own1 : own_ w (nI f) = own_ u (nI f) + 1 := by
    unfold own_
    rw [nu]
    refine cnt_less (i0 := 3 + x) (by rw [i1, ef, decide_eq_true rfl]; rfl) (by rw [i2]; rfl) (by omega) (fun b hb hne => ?_)
    rw [io b hb hne, o54 55 (by decide)]
  have own2 : ∀ y, y < 3 → y ≠ f → own_ u (nI y) = own_ w (nI y) := fun y hy hne => by
    unfold own_
    rw [nu]
    refine cnt_eq (fun b hb => ?_)
    by_cases c : b = 3 + x
    · subst c
      rw [o54 55 (by decide), ef, decide_eq_false (show ¬ nI f = nI y by rw [nI_eq (by omega) (by omega)]; omega), Bool.and_false, Bool.and_false]
    · rw [io b hb c, o54 55 (by decide)]
  have ownle : ∀ y, own_ w y ≤ nB w := fun y => by
    have : ∀ (p : Nat → Bool) m, cnt p m ≤ m := fun p m => by
      induction m with
      | zero => exact Nat.le_refl _
      | succ m ih => show cnt p m + (if p m = true then 1 else 0) ≤ m + 1; split <;> omega
    exact this _ _
  refine ⟨(Z.wI A2.1.2.2.1 (by decide) f _).wI (q := (30, 60)) A2.1.2.2.2.2.2 (by decide) x 1, W.fr (by rw [o54 49 (by decide)]) (by rw [o54 49 (by decide)]) (by rw [o54 49 (by decide)]) (by rw [o54 49 (by decide)]) (o54 69 (by decide)) (o54 70 (by decide)) (o54 71 (by decide)) (o54 51 (by decide)) (fun y hy => i54 y (by omega)), A2, fun c hc => ?_, fun y hy => ?_, fun y hy => ?_, fun y hy => ?_⟩
  · rw [q_ne (by decide), q_ne (by decide), e' 55 (by omega) (by omega) (by omega), o54 50 (by decide)]; exact O c hc
  · rw [q_ne (by decide)]
    by_cases c : y = f
    · subst c
      rw [q_at, e' 57 (by omega) (by omega) (by omega), N y hy, own1]
      show nI (_ + 1) - nI 1 = _
      rw [nI_sub (by omega)]; rfl
    · rw [q_atne c, e' 57 (by omega) (by omega) (by omega), own2 y hy c]; exact N y hy
  · have b := B.1 y hy
    unfold bxOk at *
    rw [q_ne (by decide), q_ne (by decide), q_ne (by decide), q_ne (by decide), q_ne (show 59 + y ≠ 120 by omega), q_ne (show 59 + y ≠ 57 by omega), e' 56 (by omega) (by omega) (by omega), e' 119 (by omega) (by omega) (by omega), e' (59 + y) (by omega) (by omega) (by omega), ln, o54 56 (by decide), o54 52 (by decide), o54 57 (by decide)]
    refine ⟨b.1, b.2.1, b.2.2.1, b.2.2.2.1, ?_⟩
    by_cases c : y = x
    · subst c
      rw [q_at, a54]; rfl
    · rw [q_atne c, q_ne (by decide), e' 120 (by omega) (by omega) (by omega), i54 (3 + y) (by omega)]
      exact b.2.2.2.2
  · rw [q_atne (by omega), q_ne (by decide), e' 120 (by omega) (by omega) (by omega)]; exact B.2 y hy
theorem cnt_le (p : Nat → Bool) : ∀ m, cnt p m ≤ m
  | 0 => Nat.le_refl _
  | m + 1 => by
    have := cnt_le p m
    show cnt p m + (if p m = true then 1 else 0) ≤ m + 1
    split <;> omega
theorem own_le (w : AH) (y : Int32) : own_ w y ≤ nB w := cnt_le _ _
theorem cellNow_0 (hm : nM w = 0) (i : Nat) : cellNow_ w i = hI w 52 i := by
  unfold cellNow_
  rw [hm]
  rfl
/-- a box is hidden, and the law has written it down -/
theorem LI.hid (I : LI k h w P n) (hn : n < 60) {f c st : Nat} (hf : f < 3) (hc : c < 60) {K : Int32} (hK : boxK K = true) (hst : st = if K = 3 then nS w else 0) (h3 : K = 3 → 1 ≤ nS w ∧ nS w ≤ 4) {g : AH} (Z : Zs g (hidW w (nI f) K (nI c)) P) (A2 : LA g)
    (g55 : hI g 55 = hI h 55) (g56 : hI g 56 n = lie_ w K c) (g56' : ∀ j, j ≠ n → hI g 56 j = hI h 56 j) (g119 : hI g 119 n = nI st) (g119' : ∀ j, j ≠ n → hI g 119 j = hI h 119 j) (g120 : hI g 120 = hI h 120)
    (gr : ∀ x, x < n → hI g (59 + x) = hI h (59 + x)) (gn0 : hI g (59 + n) 0 = nI c) (gn : ∀ s, 1 ≤ s → s ≤ st → hI g (59 + n) s = hI w 58 (s - 1)) (g57 : hI g 57 f = hI h 57 f + 1) (g57' : ∀ y, y ≠ f → hI g 57 y = hI h 57 y) : LI k g (hidW w (nI f) K (nI c)) P (n + 1) ∧ (∀ y, y < 3 → y = f → own_ (hidW w (nI f) K (nI c)) (nI y) = own_ w (nI y) + 1) := by
  have st4 : st ≤ 4 := by
    rw [hst]
    by_cases c3 : K = 3
    · rw [if_pos c3]; exact (h3 c3).2
    · rw [if_neg c3]; omega
  obtain ⟨Z0, W, A, O, N, B⟩ := I
  have WBw := Z0.2.WB
  have nb : nB w = 3 + n := W.2.2.1.2.2
  have nm : nM w = 0 := W.2.2.1.2.1
  obtain ⟨y1, y2, y3, y4, y5, y6⟩ := hidV_facts (w := w) (nI f) K (nI c)
  obtain ⟨x1, x2, x3, x4, x5, x6, x7, x8⟩ := hidV_new (w := w) (nI f) K (nI c)
  have e7 : (if K = 3 then nI (nS w) else 0) = nI st := by
    rw [hst]
    by_cases c3 : K = 3
    · rw [if_pos c3, if_pos c3]
    · rw [if_neg c3, if_neg c3]; rfl
  rw [e7] at x7
  rw [← hst] at x8 y5
  have o49 : ∀ a, a ≠ 49 → hI (hidW w (nI f) K (nI c)) a = hI (hidV w (nI f) K (nI c)) a := fun a ha => q_ne ha
  have p49 : ∀ j, j ≠ 11 → hI (hidW w (nI f) K (nI c)) 49 j = hI (hidV w (nI f) K (nI c)) 49 j := fun j hj => q_atne hj
  generalize hidW w (nI f) K (nI c) = u at *
  generalize hidV w (nI f) K (nI c) = v at *
  have u3 : hI u 49 3 = nI (nB w + 1) := by rw [p49 3 (by decide)]; exact y1
  have uj : ∀ j, j ≠ 3 → j ≠ 11 → hI u 49 j = hI w 49 j := fun j h1 h2 => by rw [p49 j h2]; exact y2 j h1
  have uw : ∀ a, a = 50 ∨ (58 ≤ a ∧ a ≤ 65) ∨ 67 ≤ a → hI u a = hI w a := fun a h1 => by rw [o49 a (by omega)]; exact y3 a h1
  have ub : ∀ a, (51 ≤ a ∧ a ≤ 56) ∨ a = 66 → ∀ j, j ≠ nB w → hI u a j = hI w a j := fun a h1 j h2 => by rw [o49 a (by omega)]; exact y4 a h1 j h2
  have u57 : ∀ j, j < 4 * nB w → hI u 57 j = hI w 57 j := fun j h1 => by rw [o49 57 (by decide)]; exact y5 j (Or.inl h1)
  have nu : nB u = nB w + 1 := by unfold nB at *; rw [u3, nI_clamp (by omega)]
  have num : nM u = 0 := by unfold nM at *; rw [uj 13 (by decide) (by decide)]; exact nm
  rw [← o49 51 (by decide)] at x1
  rw [← o49 54 (by decide)] at x2
  rw [← o49 55 (by decide)] at x5
  rw [← o49 52 (by decide)] at x6
  rw [← o49 56 (by decide)] at x7
  simp only [← o49 57 (by decide)] at x8
  have lv : ∀ x, x < n → liesNow_ u (3 + x) = liesNow_ w (3 + x) := fun x hx => by
    unfold liesNow_
    rw [ub 51 (by omega) (3 + x) (by omega), ub 56 (by omega) (3 + x) (by omega), cellNow_0 num, cellNow_0 nm, ub 52 (by omega) (3 + x) (by omega)]
    by_cases c3 : hI w 51 (3 + x) = 3
    · obtain ⟨-, -, b3, -⟩ := WBw (3 + x) (by omega) (W.2.2.2.2 x hx)
      obtain ⟨s, s1, s4, es, -⟩ := b3 c3
      rw [if_pos c3, if_pos c3, es, nI_clamp (by omega), u57 _ (by omega)]
    · rw [if_neg c3, if_neg c3]
  have ln : liesNow_ u (3 + n) = lie_ w K c := by
    unfold liesNow_ lie_
    rw [← nb, x1]
    by_cases c3 : K = 3
    · obtain ⟨s1, s4⟩ := h3 c3
      rw [if_pos c3] at hst
      rw [if_pos c3, if_pos c3, x7, nI_clamp (by omega), show 4 * nB w + st - 1 = 4 * nB w + (st - 1) by omega, x8 (st - 1) (by omega), hst]
    · rw [if_neg c3, if_neg c3, cellNow_0 num, x6]
  have ow : ∀ y, y < 3 → own_ u (nI y) = own_ w (nI y) + (if y = f then 1 else 0) := fun y hy => by
    unfold own_
    rw [nu]
    show cnt _ (nB w) + _ = _
    have e1 : cnt (fun b => isOut_ u (nI b) && decide (hI u 55 b = nI y)) (nB w) = cnt (fun b => isOut_ w (nI b) && decide (hI w 55 b = nI y)) (nB w) := cnt_eq (fun b hb => by
      rw [isOut_at (by omega) (by omega), isOut_at hb (by omega), ub 51 (by omega) b (by omega), ub 54 (by omega) b (by omega), ub 55 (by omega) b (by omega)])
    rw [e1]
    show _ + (if (isOut_ u (nI (nB w)) && decide (hI u 55 (nB w) = nI y)) = true then 1 else 0) = _
    rw [isOut_at (by omega) (by omega), x1, hK, x2, x5, decide_eq_true (show (-1 : Int32) < 0 by decide)]
    by_cases c : y = f
    · subst c
      simp
    · rw [if_neg c, decide_eq_false (show ¬ nI f = nI y by rw [nI_eq (by omega) (by omega)]; omega)]
      rfl
  refine ⟨⟨Z, ⟨W.1, ⟨by unfold nT; rw [uj 33 (by decide) (by decide)]; exact W.2.1.1, by rw [uw 69 (by omega)]; exact W.2.1.2.1, fun t ht => by rw [uw 70 (by omega), uw 71 (by omega)]; exact W.2.1.2.2 t ht⟩, ⟨by rw [uj 1 (by decide) (by decide)]; exact W.2.2.1.1, num, by omega⟩, fun y hy => by rw [ub 51 (by omega) y (by omega), ub 54 (by omega) y (by omega)]; exact W.2.2.2.1 y hy, fun x hx => ?_⟩, A2, fun c hc => by rw [g55, uw 50 (by omega)]; exact O c hc, fun y hy => ?_, fun x hx => ?_, fun x hx => by rw [g120]; exact B.2 x (by omega)⟩, fun y hy e => by rw [ow y hy, if_pos e]⟩
  · by_cases c : x = n
    · subst c; rw [← nb, x1]; exact hK
    · rw [ub 51 (by omega) (3 + x) (by omega)]; exact W.2.2.2.2 x (by omega)
  · have := own_le w (nI y)
    rw [ow y hy]
    by_cases c : y = f
    · subst c
      rw [g57, N y hy, if_pos rfl]
      exact nI_1 _
    · rw [g57' y c, N y hy, if_neg c]; rfl
  · by_cases c : x = n
    · subst c
      unfold bxOk
      rw [g56, g119, gn0, g120, ln, ← nb, x7, x6, x2, B.2 x (Nat.le_refl _)]
      refine ⟨rfl, rfl, rfl, fun s s1 s2 => ?_, by decide⟩
      rw [nI_clamp (by omega)] at s2
      rw [gn s s1 s2, x8 (s - 1) (by omega)]
    · have hx' : x < n := by omega
      have b := B.1 x hx'
      obtain ⟨-, -, b3, b0⟩ := WBw (3 + x) (by omega) (W.2.2.2.2 x hx')
      have s4 : (hI w 56 (3 + x)).toNatClampNeg ≤ 4 := by
        by_cases c3 : hI w 51 (3 + x) = 3
        · obtain ⟨s, s1, s4, es, -⟩ := b3 c3
          rw [es, nI_clamp (by omega)]; exact s4
        · rw [b0 c3]; decide
      unfold bxOk at *
      rw [g56' x c, g119' x c, gr x hx', g120, lv x hx', ub 56 (by omega) (3 + x) (by omega), ub 52 (by omega) (3 + x) (by omega), ub 54 (by omega) (3 + x) (by omega)]
      refine ⟨b.1, b.2.1, b.2.2.1, fun s s1 s2 => ?_, b.2.2.2.2⟩
      rw [u57 _ (by omega)]
      exact b.2.2.2.1 s s1 s2
end
