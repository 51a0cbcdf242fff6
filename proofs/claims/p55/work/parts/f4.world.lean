/-! WHAT THE THREE TEXTS SAY in the law's world: k the nearness, n boxes behind three finders -/
def Wd (k : Nat) (w : AH) (P : Nat → Prog) (n : Nat) : Prop := (k < 8 ∧ P 0 = pg1 k ∧ P 1 = pg2 ∧ P 2 = pg3) ∧ (nT w = 3 ∧ (hI w 69 0 = 0 ∧ hI w 69 1 = 13 ∧ hI w 69 2 = 1) ∧ (∀ t, t < 3 → hI w 70 t = 0 ∧ hI w 71 t = 0)) ∧ (hI w 49 1 = 0 ∧ nM w = 0 ∧ nB w = 3 + n) ∧ (∀ f, f < 3 → hI w 51 f = 7 ∧ hI w 54 f = -1) ∧ ∀ x, x < n → boxK (hI w 51 (3 + x)) = true
section
variable {k n : Nat} {w : AH} {P : Nat → Prog}
theorem Wd.force (W : Wd k w P n) (use : Int32) : force_ w use (hI w 49 1) (hI w 49 1) = if use = 1 then some 2 else if use = 13 then some 1 else if use = 0 then some 0 else none := by
  obtain ⟨-, ⟨t, ⟨u0, u1, u2⟩, m⟩, ⟨d, -, -⟩, -, -⟩ := W
  obtain ⟨a0, b0⟩ := m 0 (by omega)
  obtain ⟨a1, b1⟩ := m 1 (by omega)
  obtain ⟨a2, b2⟩ := m 2 (by omega)
  unfold force_
  rw [t, d]
  unfold lastOf lastOf lastOf lastOf
  rw [u0, u1, u2, a0, a1, a2, b0, b1, b2]
  have z : (0 : Int32) ≤ 0 := by decide
  simp only [z, and_true, decide_eq_true_eq]
  by_cases c1 : use = 1
  · subst c1; simp
  · by_cases c2 : use = 13
    · subst c2; simp
    · by_cases c3 : use = 0
      · subst c3; simp
      · rw [if_neg (fun z => c1 z.symm), if_neg (fun z => c2 z.symm), if_neg (fun z => c3 z.symm), if_neg c1, if_neg c2, if_neg c3]
theorem Wd.near (W : Wd k w P n) : (nearG w P).1 = nI k := by
  unfold nearG ans_
  rw [W.force]
  have e : P 0 = pg1 k := W.1.2.1
  show clamp_ (progV _ (P 0) 0).1 = _
  rw [e]
  have : ∀ F, (progV F (pg1 k) 0).1 = nI k := fun F => rfl
  rw [this]
  have hk := W.1.1
  have hc : ∀ k, k < 8 → clamp_ (nI k) = nI k := by decide
  exact hc k hk
theorem Wd.hide (W : Wd k w P n) (i : Nat) (kind cell : Int32) : ((hideG w P i kind cell).1 = 0) = ((3 : Int32) ≤ nI (own_ w (nI i))) := by
  unfold hideG ans_
  rw [W.force]
  have e : P 2 = pg3 := W.1.2.2.2
  show ((progV _ (P 2) 0).1 = 0) = _
  rw [e]
  have : ∀ F : Nat → Int32, (progV F pg3 0).1 = if F 2 < 3 then 1 else 0 := by
    intro F
    show (if lineCounts F (2, [(1, 2), (0, 3), (4, 0)], [(0, 0)]) = true then _ else _ : Int32 × Int32).1 = _
    have e1 : lineCounts F (2, [(1, 2), (0, 3), (4, 0)], [(0, 0)]) = (decide ((if F 2 < 3 then (1 : Int32) else 0) ≠ 0) == false) := rfl
    rw [e1]
    by_cases c : F 2 < 3
    · rw [if_pos c]; rfl
    · rw [if_neg c]; rfl
  rw [this]
  show ((if nI (own_ w (nI i)) < 3 then (1 : Int32) else 0) = 0) = _
  by_cases c : nI (own_ w (nI i)) < 3
  · rw [if_pos c]
    exact propext ⟨fun z => absurd z (by decide), fun z => absurd c (Int32.not_lt.mpr z)⟩
  · rw [if_neg c]
    exact propext ⟨fun _ => Int32.not_lt.mp c, fun _ => rfl⟩
/-- an owner lets a box there -/
def lets (o kind : Int32) (far : Int32) : Bool := decide (o < 0) || (decide (o = 3) && (decide (kind = 1) || decide (far < 4)))
theorem Wd.may (W : Wd k w P n) (i : Nat) (kind : Int32) {c : Nat} (hc : c < 60) (ho : hI w 50 c = 0 ∨ hI w 50 c = 4 ∨ hI w 50 c = 6) : mayG w P i kind c = lets (hI w 50 c - 1) kind (far_ (hI w 52 i) (nI c)) := by
  unfold mayG leaveG ans_ lets
  rw [W.force]
  have e : P 1 = pg2 := W.1.2.2.1
  have hp : ∀ F : Nat → Int32, (progV F pg2 0).1 = if F 1 = 1 ∨ F 8 < 4 then 1 else 0 := by
    intro F
    show two_ 2 (two_ 5 (F 1) 1) (two_ 4 (F 8) 4) = _
    show (if (if F 1 = 1 then (1 : Int32) else 0) = 0 ∧ (if F 8 < 4 then (1 : Int32) else 0) = 0 then (0 : Int32) else 1) = _
    by_cases a : F 1 = 1 <;> by_cases b : F 8 < 4 <;> simp [a, b]
  rcases ho with z | z | z
  · rw [z]; rfl
  · rw [z]
    show (decide ((4 : Int32) - 1 < 0) || decide ((progV (fx w (hI w 49 1) (some i) none kind (nI c) 0) (P 1) 0).1 ≠ 0)) = _
    rw [e, hp]
    have e8 : fx w (hI w 49 1) (some i) none kind (nI c) 0 8 = far_ (hI w 52 i) (nI c) := if_neg (nI_pos (by omega))
    have e1 : fx w (hI w 49 1) (some i) none kind (nI c) 0 1 = kind := rfl
    rw [e8, e1]
    by_cases a : kind = 1 <;> by_cases b : far_ (hI w 52 i) (nI c) < 4 <;> simp [a, b]
  · rw [z]; rfl
theorem anyN_skip {p : Nat → Bool} (h0 : p 0 = false) (h1 : p 1 = false) (h2 : p 2 = false) : ∀ n, anyN p (3 + n) = anyN (fun x => p (3 + x)) n
  | 0 => by
    show anyN p 3 = false
    exact anyN_none (fun i hi => by
      have : i = 0 ∨ i = 1 ∨ i = 2 := by omega
      rcases this with rfl | rfl | rfl <;> assumption)
  | n + 1 => by
    show (anyN p (3 + n) || p (3 + n)) = (anyN (fun x => p (3 + x)) n || p (3 + n))
    rw [anyN_skip h0 h1 h2 n]
theorem Wd.why (W : Wd k w P n) {i : Nat} (hi : i < 3) (kind : Int32) (c : Nat) : why_ w P i kind c = if (3 : Int32) ≤ nI (own_ w (nI i)) then 1 else if mayG w P i kind c = false ∨ (kind = 3 ∧ anyN (badStep w P i kind) (nS w) = true) then 2 else if anyN (fun x => knownB w (lie_ w kind c) (nI k) (3 + x)) n = true then 3 else if anyN (fun x => secretB w (lie_ w kind c) (nI k) (3 + x)) n = true then 4 else 0 := by
  have hf := W.2.2.2.1
  have kb : ∀ f, f < 3 → knownB w (lie_ w kind c) (nI k) f = false := fun f h => by
    unfold knownB
    rw [(hf f h).1]; rfl
  have sb : ∀ f, f < 3 → secretB w (lie_ w kind c) (nI k) f = false := fun f h => by
    unfold secretB
    rw [(hf f h).1]; rfl
  unfold why_
  rw [W.near, W.2.2.1.2.2, anyN_skip (kb 0 (by omega)) (kb 1 (by omega)) (kb 2 (by omega)), anyN_skip (sb 0 (by omega)) (sb 1 (by omega)) (sb 2 (by omega))]
  have z : ¬ (0 : Int32) ≤ -1 := by decide
  simp only [W.hide, (hf i hi).2, z, false_or]
theorem Wd.fr (W : Wd k w P n) {u : AH} (e33 : hI u 49 33 = hI w 49 33) (e1 : hI u 49 1 = hI w 49 1) (e13 : hI u 49 13 = hI w 49 13) (e3 : hI u 49 3 = hI w 49 3) (e69 : hI u 69 = hI w 69) (e70 : hI u 70 = hI w 70) (e71 : hI u 71 = hI w 71) (e51 : hI u 51 = hI w 51) (e54 : ∀ f, f < 3 → hI u 54 f = hI w 54 f) : Wd k u P n := by
  obtain ⟨a, ⟨t, b, c⟩, ⟨d, m, nn⟩, f, x⟩ := W
  unfold nT at t
  unfold nM at m
  unfold nB at nn
  refine ⟨a, ⟨by unfold nT; rw [e33]; exact t, by rw [e69]; exact b, fun t ht => by rw [e70, e71]; exact c t ht⟩, ⟨by rw [e1]; exact d, by unfold nM; rw [e13]; exact m, by unfold nB; rw [e3]; exact nn⟩, fun y hy => by rw [e51, e54 y hy]; exact f y hy, fun y hy => by rw [e51]; exact x y hy⟩
end
/-! how many of one finder's boxes lie out -/
theorem cnt_eq {p q : Nat → Bool} : ∀ {n : Nat}, (∀ i, i < n → q i = p i) → cnt q n = cnt p n
  | 0, _ => rfl
  | n + 1, h => by
    unfold cnt
    rw [cnt_eq (fun i hi => h i (by omega)), h n (by omega)]
theorem cnt_less {p q : Nat → Bool} {i0 : Nat} (hp : p i0 = true) (hq : q i0 = false) : ∀ {n : Nat}, i0 < n → (∀ i, i < n → i ≠ i0 → q i = p i) → cnt p n = cnt q n + 1
  | 0, h, _ => absurd h (by omega)
  | n + 1, h, e => by
    by_cases c : i0 = n
    · subst c
      have := cnt_eq (p := p) (q := q) (n := i0) (fun i hi => e i (by omega) (by omega))
      unfold cnt
      rw [this, hp, hq]
      simp
    · have := cnt_less hp hq (n := n) (by omega) (fun i hi hne => e i (by omega) hne)
      unfold cnt
      rw [this, e n (by omega) (by omega)]
      omega
