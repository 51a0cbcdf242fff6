/-! solve, solved, others: what both look for -/
abbrev Dg : Type := Nat → Int32
def dD (D : Dg) (x : Int32) : Int32 := D x.toNatClampNeg
def hold_ (w : AH) (b : Nat) (D : Dg) (k : Nat) : Bool := decide (if hI w 81 (8 * b + k) = 0 then dD D (hI w 82 (8 * b + k)) + dD D (hI w 83 (8 * b + k)) = hI w 84 (8 * b + k) else if hI w 81 (8 * b + k) = 1 then dD D (hI w 82 (8 * b + k)) * dD D (hI w 83 (8 * b + k)) = hI w 84 (8 * b + k) else if hI w 81 (8 * b + k) = 2 then dD D (hI w 82 (8 * b + k)) - dD D (hI w 83 (8 * b + k)) = hI w 84 (8 * b + k) else dD D (hI w 82 (8 * b + k)) = hI w 84 (8 * b + k))
def coord_ (w : AH) (b : Nat) (D : Dg) (k : Nat) : Int32 := if hI w 82 (8 * b + k) = 6 then hI w 84 (8 * b + k) else dD D (hI w 82 (8 * b + k)) - hI w 84 (8 * b + k)
def allHold_ (w : AH) (b m : Nat) (D : Dg) : Bool := !anyN (fun k => decide (hI w 81 (8 * b + k) < 4) && !hold_ w b D k) m
def in_ (v hi : Int32) : Bool := decide (0 ≤ v ∧ v ≤ hi)
def okS (w : AH) (b m kx ky : Nat) (D : Dg) : Bool := allHold_ w b m D && in_ (coord_ w b D kx) 9 && in_ (coord_ w b D ky) 5
def celA (w : AH) (b kx ky : Nat) (D : Dg) : Int32 := 10 * coord_ w b D ky + coord_ w b D kx
/-- the letters told -/
def inL (w : AH) (b m x : Nat) : Bool := anyN (fun k => decide (hI w 82 (8 * b + k) = nI x) || (decide (hI w 81 (8 * b + k) ≤ 2) && decide (hI w 83 (8 * b + k) = nI x))) m
def setD (D : Dg) (k : Nat) (v : Int32) : Dg := fun j => if j = k then v else D j
/-- all solutions from a letter on, in order: the number of the digits, and the cell -/
def solL (il : Nat → Bool) (ok : Dg → Bool) (ce : Dg → Int32) : Nat → Nat → Nat → Dg → Int32 → List (Int32 × Int32)
  | 0, _, _, D, sf => if ok D = true then [(sf, ce D)] else []
  | f + 1, x, u, D, sf => if il x = true then (List.range 10).flatMap (fun d => if u.testBit d = true then [] else solL il ok ce f (x + 1) (u ||| 2 ^ d) (setD D x (nI d)) (10 * sf + nI d)) else solL il ok ce f (x + 1) u D sf
theorem solL_s (il : Nat → Bool) (ok : Dg → Bool) (ce : Dg → Int32) (f x u : Nat) (D : Dg) (sf : Int32) : solL il ok ce (f + 1) x u D sf = if il x = true then (List.range 10).flatMap (fun d => if u.testBit d = true then [] else solL il ok ce f (x + 1) (u ||| 2 ^ d) (setD D x (nI d)) (10 * sf + nI d)) else solL il ok ce f (x + 1) u D sf := rfl
/-- digits of letters that are told, from the first on, alike -/
def eqD (il : Nat → Bool) (x : Nat) (D E : Dg) : Prop := ∀ j, j < x → il j = true → D j = E j
theorem solL_congr {il : Nat → Bool} {ok : Dg → Bool} {ce : Dg → Int32} (hok : ∀ D E, eqD il 6 D E → ok D = ok E ∧ ce D = ce E) : ∀ (f x u : Nat) (D E : Dg) (sf : Int32), f + x = 6 → eqD il x D E → solL il ok ce f x u D sf = solL il ok ce f x u E sf := by
  intro f
  induction f with
  | zero =>
    intro x u D E sf h e
    have h : x = 6 := by omega
    subst h
    obtain ⟨e1, e2⟩ := hok D E e
    unfold solL
    rw [e1, e2]
  | succ f ih =>
    intro x u D E sf h e
    rw [solL_s, solL_s]
    by_cases c : il x = true
    · rw [if_pos c, if_pos c]
      congr 1
      funext d
      by_cases t : u.testBit d = true
      · rw [if_pos t, if_pos t]
      · rw [if_neg t, if_neg t]
        refine ih _ _ _ _ _ (by omega) (fun j hj hl => ?_)
        unfold setD
        by_cases z : j = x
        · rw [if_pos z, if_pos z]
        · rw [if_neg z, if_neg z]; exact e j (by omega) hl
    · rw [if_neg c, if_neg c]
      refine ih _ _ _ _ _ (by omega) (fun j hj hl => ?_)
      by_cases z : j = x
      · rw [z] at hl; exact absurd hl c
      · exact e j (by omega) hl
theorem inL_at {w : AH} {b m k : Nat} (hk : k < m) {x : Nat} (h : hI w 82 (8 * b + k) = nI x) : inL w b m x = true := anyN_at hk (by rw [decide_eq_true h, Bool.true_or])
theorem inL_at2 {w : AH} {b m k : Nat} (hk : k < m) {x : Nat} (hs : hI w 81 (8 * b + k) ≤ 2) (h : hI w 83 (8 * b + k) = nI x) : inL w b m x = true := anyN_at hk (by rw [decide_eq_true h, decide_eq_true hs, Bool.true_and, Bool.or_true])
/-- what a telling is -/
theorem tel_one {s f t v : Int32} (h : telOk s f t v = true) : (0 ≤ s ∧ s ≤ 5) ∧ (∃ x, x ≤ 6 ∧ f = nI x) ∧ (s ≤ 3 → ∃ x, x < 6 ∧ f = nI x) ∧ (s ≤ 2 → ∃ x, x < 6 ∧ t = nI x) ∧ (-9 ≤ v ∧ v ≤ 81) := by
  have h := of_decide_eq_true h
  have hs := h.1
  have h2 := h.2
  by_cases c : s ≤ 3
  · rw [if_pos c] at h2
    obtain ⟨x, hx, ex⟩ := nI_in0 (c := f) (n := 6) h2.1.1 (by omega) (show f < 6 by have := h2.1.2; grind)
    refine ⟨hs, ⟨x, by omega, ex⟩, fun _ => ⟨x, hx, ex⟩, fun c2 => ?_, ?_⟩
    · have := h2.2.1 c2
      exact nI_in0 (c := t) (n := 6) this.1 (by omega) (show t < 6 by have := this.2; grind)
    · have := h2.2.2
      split at this
      · grind
      split at this
      · grind
      split at this <;> grind
  · rw [if_neg c] at h2
    obtain ⟨x, hx, ex⟩ := nI_in0 (c := f) (n := 7) h2.1.1 (by omega) (show f < 7 by have := h2.1.2; grind)
    exact ⟨hs, ⟨x, by omega, ex⟩, fun c2 => absurd c2 c, fun c2 => absurd (show s ≤ 3 by grind) c, by have := h2.2; grind⟩
/-- the tellings of a riddle: so many, each of them one, x and y at places -/
def TelW (w : AH) (b m kx ky : Nat) : Prop := m ≤ 8 ∧ (∀ k, k < m → telOk (hI w 81 (8 * b + k)) (hI w 82 (8 * b + k)) (hI w 83 (8 * b + k)) (hI w 84 (8 * b + k)) = true) ∧ kx < m ∧ ky < m
theorem hold_eq {w : AH} {b m kx ky : Nat} (T : TelW w b m kx ky) {D E : Dg} (e : eqD (inL w b m) 6 D E) {k : Nat} (hk : k < m) (s4 : hI w 81 (8 * b + k) < 4) : hold_ w b D k = hold_ w b E k := by
  obtain ⟨t1, -, t3, t4, -⟩ := tel_one (T.2.1 k hk)
  obtain ⟨x, hx, ex⟩ := t3 (by grind)
  have e1 : dD D (hI w 82 (8 * b + k)) = dD E (hI w 82 (8 * b + k)) := by
    unfold dD
    rw [ex, nI_clamp (by omega)]
    exact e x hx (inL_at hk ex)
  have e2 : hI w 81 (8 * b + k) ≤ 2 → dD D (hI w 83 (8 * b + k)) = dD E (hI w 83 (8 * b + k)) := fun c => by
    obtain ⟨y, hy, ey⟩ := t4 c
    unfold dD
    rw [ey, nI_clamp (by omega)]
    exact e y hy (inL_at2 hk c ey)
  unfold hold_
  by_cases c : hI w 81 (8 * b + k) ≤ 2
  · simp only [e1, e2 c]
  · have n0 : ¬ hI w 81 (8 * b + k) = 0 := by grind
    have n1 : ¬ hI w 81 (8 * b + k) = 1 := by grind
    have n2 : ¬ hI w 81 (8 * b + k) = 2 := by grind
    simp only [n0, n1, n2, e1, if_false]
theorem coord_eq {w : AH} {b m kx ky : Nat} (T : TelW w b m kx ky) {D E : Dg} (e : eqD (inL w b m) 6 D E) {k : Nat} (hk : k < m) : coord_ w b D k = coord_ w b E k := by
  obtain ⟨-, ⟨x, hx, ex⟩, -⟩ := tel_one (T.2.1 k hk)
  unfold coord_
  by_cases c : hI w 82 (8 * b + k) = 6
  · rw [if_pos c, if_pos c]
  · rw [if_neg c, if_neg c]
    have x6 : x < 6 := by
      rcases Nat.lt_or_ge x 6 with y | y
      · exact y
      · have : x = 6 := by omega
        subst this; exact absurd ex c
    unfold dD
    rw [ex, nI_clamp (by omega), e x x6 (inL_at hk ex)]
theorem ok_congr {w : AH} {b m kx ky : Nat} (T : TelW w b m kx ky) : ∀ D E, eqD (inL w b m) 6 D E → okS w b m kx ky D = okS w b m kx ky E ∧ celA w b kx ky D = celA w b kx ky E := by
  intro D E e
  have ex := coord_eq T e T.2.2.1
  have ey := coord_eq T e T.2.2.2
  unfold okS celA allHold_
  rw [ex, ey]
  refine ⟨?_, rfl⟩
  congr 3
  refine anyN_congr (fun k hk => ?_)
  by_cases c : hI w 81 (8 * b + k) < 4
  · rw [hold_eq T e hk c]
  · rw [decide_eq_false c]; rfl
