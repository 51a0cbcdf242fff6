/-! A TURN OF THE LAW -/
theorem allN_or (q : Nat → Bool) : ∀ st, allN q (st + 1) = (q 0 && !(anyN (fun s => !q (s + 1)) st))
  | 0 => by
    show (true && q 0) = (q 0 && !false)
    cases q 0 <;> rfl
  | st + 1 => by
    show (allN q (st + 1) && q (st + 1)) = (q 0 && !(anyN (fun s => !q (s + 1)) st || !q (st + 1)))
    rw [allN_or q st]
    cases q 0 <;> cases anyN (fun s => !q (s + 1)) st <;> cases q (st + 1) <;> rfl
theorem anyN_cg {p q : Nat → Bool} : ∀ {n : Nat}, (∀ i, i < n → p i = q i) → anyN p n = anyN q n
  | 0, _ => rfl
  | n + 1, h => by
    show (anyN p n || p n) = (anyN q n || q n)
    rw [anyN_cg (fun i hi => h i (by omega)), h n (by omega)]
theorem allN_cg {p q : Nat → Bool} : ∀ {n : Nat}, (∀ i, i < n → p i = q i) → allN p n = allN q n
  | 0, _ => rfl
  | n + 1, h => by
    show (allN p n && p n) = (allN q n && q n)
    rw [allN_cg (fun i hi => h i (by omega)), h n (by omega)]
section
variable {k n : Nat} {h w : AH} {P : Nat → Prog}
/-- the leaves, all of them -/
theorem LI.leaves (I : LI k h w P n) {f st : Nat} (hf : f < 3) {K : Int32} {to : Nat → Nat} (ht : ∀ j, j < 3 → to j < 60) (s : StW w to st) (hst : (K = 3 ∧ 1 ≤ st ∧ st ≤ 2) ∨ (¬ K = 3 ∧ st = 0)) :
    (allN (fun j => lets (hI h 55 (to j)) K (far_ (hI w 52 f) (nI (to j)))) (st + 1) = false) = (mayG w P f K (to 0) = false ∨ (K = 3 ∧ anyN (badStep w P f K) (nS w) = true)) := by
  obtain ⟨Z, W, A, O, N, B⟩ := I
  have e : ∀ j, j < st + 1 → lets (hI h 55 (to j)) K (far_ (hI w 52 f) (nI (to j))) = mayG w P f K (to j) := fun j hj => by
    obtain ⟨o1, o2⟩ := O (to j) (ht j (by omega))
    have o3 : hI w 50 (to j) = 0 ∨ hI w 50 (to j) = 4 ∨ hI w 50 (to j) = 6 := by
      rw [o1]
      rcases o2 with z | z | z <;> rw [z]
      · exact Or.inl (by decide)
      · exact Or.inr (Or.inl (by decide))
      · exact Or.inr (Or.inr (by decide))
    have o4 : hI w 50 (to j) - 1 = hI h 55 (to j) := by
      rw [o1]
      rcases o2 with z | z | z <;> rw [z] <;> decide
    rw [W.may f K (ht j (by omega)) o3, o4]
  rw [allN_cg e, allN_or]
  have eb : anyN (fun s => !mayG w P f K (to (s + 1))) st = anyN (badStep w P f K) st := anyN_cg (fun j hj => by
    unfold badStep
    rw [s.2.2 j hj, nI_clamp (by have := ht (j + 1) (by omega); omega)])
  rw [eb, s.1]
  refine propext ?_
  rcases hst with z | z
  · rw [Bool.and_eq_false_iff, Bool.not_eq_false']
    exact ⟨fun q => q.elim Or.inl (fun y => Or.inr ⟨z.1, y⟩), fun q => q.elim Or.inl (fun y => Or.inr y.2)⟩
  · rw [z.2]
    show (mayG w P f K (to 0) && true) = false ↔ _
    rw [Bool.and_true]
    exact ⟨Or.inl, fun q => q.elim id (fun y => absurd y.1 z.1)⟩
theorem LI.due (I : LI k h w P n) {f st c : Nat} (hf : f < 3) {K : Int32} {to : Nat → Nat} (ht : ∀ j, j < 3 → to j < 60) (s : StW w to st) (hst : (K = 3 ∧ 1 ≤ st ∧ st ≤ 2) ∨ (¬ K = 3 ∧ st = 0)) (ec : to 0 = c) {may lv op sc : Bool} (em : may = decide (¬ (3 : Int32) ≤ nI (own_ w (nI f)))) (el : lv = allN (fun j => lets (hI h 55 (to j)) K (far_ (hI w 52 f) (nI (to j)))) (st + 1)) (eo : op = anyN (fun x => knownB w (lie_ w K c) (nI k) (3 + x)) n) (es : sc = anyN (fun x => secretB w (lie_ w K c) (nI k) (3 + x)) n) {J : Int32 → Option (Int32 × AH)} {Q : Int32 → AH → Prop} (hj : wp (J (why_ w P f K c)) Q) :
    wp (if b2i may = 0 then J (1 : Int32) else if b2i lv = 0 then J (2 : Int32) else if b2i op = 0 then (if b2i sc = 0 then J (0 : Int32) else J (4 : Int32)) else J (3 : Int32)) Q := by
  have lvs := I.leaves (P := P) hf ht s hst
  rw [← el, ec] at lvs
  rw [I.2.1.why hf] at hj
  rw [← eo, ← es] at hj
  have z0 : ∀ b : Bool, (b2i b = 0) = (b = false) := fun b => by cases b <;> simp [b2i]
  simp only [z0]
  by_cases c1 : (3 : Int32) ≤ nI (own_ w (nI f))
  · rw [if_pos c1] at hj
    rw [if_pos (show may = false by rw [em, decide_eq_false (fun q => q c1)])]
    exact hj
  · rw [if_neg c1] at hj
    rw [if_neg (show ¬ may = false by rw [em, decide_eq_true c1]; decide)]
    by_cases c2 : lv = false
    · rw [if_pos (lvs ▸ c2)] at hj
      rw [if_pos c2]
      exact hj
    · rw [if_neg (fun q => c2 (lvs ▸ q))] at hj
      rw [if_neg c2]
      cases op with
      | true => exact hj
      | false =>
        cases sc with
        | true => exact hj
        | false => exact hj
end
