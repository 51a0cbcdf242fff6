theorem wp_g1 {α A0 : Type} {F : (A0 → Option (α × AH)) → A0 → Option (α × AH)} {Q : α → AH → Prop} (N : Nat) (I : Nat → A0 → Prop) {a0 : A0} (h0 : I 0 a0) (hN : N < 1000000) (stop : ∀ (G : A0 → Option (α × AH)) x0, I N x0 → wp (F G x0) Q) (step : ∀ (G : A0 → Option (α × AH)) (i : Nat) x0, i < N → I i x0 → (∀ y0, I (i + 1) y0 → wp (G y0) Q) → wp (F G x0) Q) : wp (lp (fun _ => none) F lpN a0) Q := by
  have key : ∀ (k i : Nat) x0, i ≤ N → N - i < k → I i x0 → wp (lp (fun _ => none) F k x0) Q := by
    intro k
    induction k with
    | zero => intro i x0 h1 h2; omega
    | succ k ih =>
      intro i x0 h1 h2 h3
      rcases Nat.eq_or_lt_of_le h1 with e | e
      · subst e; exact stop (lp (fun _ => none) F k) x0 h3
      · exact step (lp (fun _ => none) F k) i x0 e h3 (fun y0 h5 => ih (i + 1) y0 (by omega) (by omega) h5)
  exact key lpN 0 a0 (Nat.zero_le N) (by rw [lpN_eq]; omega) h0
theorem wp_d1 {α A0 : Type} {F : (A0 → Option (α × AH)) → A0 → Option (α × AH)} {Q : α → AH → Prop} (N : Nat) (I : Nat → A0 → Prop) {a0 : A0} (h0 : I N a0) (hN : N < 1000000) (stop : ∀ (G : A0 → Option (α × AH)) x0, I 0 x0 → wp (F G x0) Q) (step : ∀ (G : A0 → Option (α × AH)) (j : Nat) x0, j < N → I (j + 1) x0 → (∀ y0, I j y0 → wp (G y0) Q) → wp (F G x0) Q) : wp (lp (fun _ => none) F lpN a0) Q := by
  have key : ∀ (k j : Nat) x0, j ≤ N → j < k → I j x0 → wp (lp (fun _ => none) F k x0) Q := by
    intro k
    induction k with
    | zero => intro j x0 h1 h2; omega
    | succ k ih =>
      intro j x0 h1 h2 h3
      match j, h1, h2, h3 with
      | 0, h1, h2, h3 => exact stop (lp (fun _ => none) F k) x0 h3
      | j + 1, h1, h2, h3 => exact step (lp (fun _ => none) F k) j x0 (by omega) h3 (fun y0 h5 => ih j y0 (by omega) (by omega) h5)
  exact key lpN N a0 (Nat.le_refl N) (by rw [lpN_eq]; omega) h0
theorem wp_g2 {α A0 A1 : Type} {F : (A0 → A1 → Option (α × AH)) → A0 → A1 → Option (α × AH)} {Q : α → AH → Prop} (N : Nat) (I : Nat → A0 → A1 → Prop) {a0 : A0} {a1 : A1} (h0 : I 0 a0 a1) (hN : N < 1000000) (stop : ∀ (G : A0 → A1 → Option (α × AH)) x0 x1, I N x0 x1 → wp (F G x0 x1) Q) (step : ∀ (G : A0 → A1 → Option (α × AH)) (i : Nat) x0 x1, i < N → I i x0 x1 → (∀ y0 y1, I (i + 1) y0 y1 → wp (G y0 y1) Q) → wp (F G x0 x1) Q) : wp (lp (fun _ _ => none) F lpN a0 a1) Q := by
  have key : ∀ (k i : Nat) x0 x1, i ≤ N → N - i < k → I i x0 x1 → wp (lp (fun _ _ => none) F k x0 x1) Q := by
    intro k
    induction k with
    | zero => intro i x0 x1 h1 h2; omega
    | succ k ih =>
      intro i x0 x1 h1 h2 h3
      rcases Nat.eq_or_lt_of_le h1 with e | e
      · subst e; exact stop (lp (fun _ _ => none) F k) x0 x1 h3
      · exact step (lp (fun _ _ => none) F k) i x0 x1 e h3 (fun y0 y1 h5 => ih (i + 1) y0 y1 (by omega) (by omega) h5)
  exact key lpN 0 a0 a1 (Nat.zero_le N) (by rw [lpN_eq]; omega) h0
theorem wp_g3 {α A0 A1 A2 : Type} {F : (A0 → A1 → A2 → Option (α × AH)) → A0 → A1 → A2 → Option (α × AH)} {Q : α → AH → Prop} (N : Nat) (I : Nat → A0 → A1 → A2 → Prop) {a0 : A0} {a1 : A1} {a2 : A2} (h0 : I 0 a0 a1 a2) (hN : N < 1000000) (stop : ∀ (G : A0 → A1 → A2 → Option (α × AH)) x0 x1 x2, I N x0 x1 x2 → wp (F G x0 x1 x2) Q) (step : ∀ (G : A0 → A1 → A2 → Option (α × AH)) (i : Nat) x0 x1 x2, i < N → I i x0 x1 x2 → (∀ y0 y1 y2, I (i + 1) y0 y1 y2 → wp (G y0 y1 y2) Q) → wp (F G x0 x1 x2) Q) : wp (lp (fun _ _ _ => none) F lpN a0 a1 a2) Q := by
  have key : ∀ (k i : Nat) x0 x1 x2, i ≤ N → N - i < k → I i x0 x1 x2 → wp (lp (fun _ _ _ => none) F k x0 x1 x2) Q := by
    intro k
    induction k with
    | zero => intro i x0 x1 x2 h1 h2; omega
    | succ k ih =>
      intro i x0 x1 x2 h1 h2 h3
      rcases Nat.eq_or_lt_of_le h1 with e | e
      · subst e; exact stop (lp (fun _ _ _ => none) F k) x0 x1 x2 h3
      · exact step (lp (fun _ _ _ => none) F k) i x0 x1 x2 e h3 (fun y0 y1 y2 h5 => ih (i + 1) y0 y1 y2 (by omega) (by omega) h5)
  exact key lpN 0 a0 a1 a2 (Nat.zero_le N) (by rw [lpN_eq]; omega) h0
theorem wp_g4 {α A0 A1 A2 A3 : Type} {F : (A0 → A1 → A2 → A3 → Option (α × AH)) → A0 → A1 → A2 → A3 → Option (α × AH)} {Q : α → AH → Prop} (N : Nat) (I : Nat → A0 → A1 → A2 → A3 → Prop) {a0 : A0} {a1 : A1} {a2 : A2} {a3 : A3} (h0 : I 0 a0 a1 a2 a3) (hN : N < 1000000) (stop : ∀ (G : A0 → A1 → A2 → A3 → Option (α × AH)) x0 x1 x2 x3, I N x0 x1 x2 x3 → wp (F G x0 x1 x2 x3) Q) (step : ∀ (G : A0 → A1 → A2 → A3 → Option (α × AH)) (i : Nat) x0 x1 x2 x3, i < N → I i x0 x1 x2 x3 → (∀ y0 y1 y2 y3, I (i + 1) y0 y1 y2 y3 → wp (G y0 y1 y2 y3) Q) → wp (F G x0 x1 x2 x3) Q) : wp (lp (fun _ _ _ _ => none) F lpN a0 a1 a2 a3) Q := by
  have key : ∀ (k i : Nat) x0 x1 x2 x3, i ≤ N → N - i < k → I i x0 x1 x2 x3 → wp (lp (fun _ _ _ _ => none) F k x0 x1 x2 x3) Q := by
    intro k
    induction k with
    | zero => intro i x0 x1 x2 x3 h1 h2; omega
    | succ k ih =>
      intro i x0 x1 x2 x3 h1 h2 h3
      rcases Nat.eq_or_lt_of_le h1 with e | e
      · subst e; exact stop (lp (fun _ _ _ _ => none) F k) x0 x1 x2 x3 h3
      · exact step (lp (fun _ _ _ _ => none) F k) i x0 x1 x2 x3 e h3 (fun y0 y1 y2 y3 h5 => ih (i + 1) y0 y1 y2 y3 (by omega) (by omega) h5)
  exact key lpN 0 a0 a1 a2 a3 (Nat.zero_le N) (by rw [lpN_eq]; omega) h0
theorem wp_g5 {α A0 A1 A2 A3 A4 : Type} {F : (A0 → A1 → A2 → A3 → A4 → Option (α × AH)) → A0 → A1 → A2 → A3 → A4 → Option (α × AH)} {Q : α → AH → Prop} (N : Nat) (I : Nat → A0 → A1 → A2 → A3 → A4 → Prop) {a0 : A0} {a1 : A1} {a2 : A2} {a3 : A3} {a4 : A4} (h0 : I 0 a0 a1 a2 a3 a4) (hN : N < 1000000) (stop : ∀ (G : A0 → A1 → A2 → A3 → A4 → Option (α × AH)) x0 x1 x2 x3 x4, I N x0 x1 x2 x3 x4 → wp (F G x0 x1 x2 x3 x4) Q) (step : ∀ (G : A0 → A1 → A2 → A3 → A4 → Option (α × AH)) (i : Nat) x0 x1 x2 x3 x4, i < N → I i x0 x1 x2 x3 x4 → (∀ y0 y1 y2 y3 y4, I (i + 1) y0 y1 y2 y3 y4 → wp (G y0 y1 y2 y3 y4) Q) → wp (F G x0 x1 x2 x3 x4) Q) : wp (lp (fun _ _ _ _ _ => none) F lpN a0 a1 a2 a3 a4) Q := by
  have key : ∀ (k i : Nat) x0 x1 x2 x3 x4, i ≤ N → N - i < k → I i x0 x1 x2 x3 x4 → wp (lp (fun _ _ _ _ _ => none) F k x0 x1 x2 x3 x4) Q := by
    intro k
    induction k with
    | zero => intro i x0 x1 x2 x3 x4 h1 h2; omega
    | succ k ih =>
      intro i x0 x1 x2 x3 x4 h1 h2 h3
      rcases Nat.eq_or_lt_of_le h1 with e | e
      · subst e; exact stop (lp (fun _ _ _ _ _ => none) F k) x0 x1 x2 x3 x4 h3
      · exact step (lp (fun _ _ _ _ _ => none) F k) i x0 x1 x2 x3 x4 e h3 (fun y0 y1 y2 y3 y4 h5 => ih (i + 1) y0 y1 y2 y3 y4 (by omega) (by omega) h5)
  exact key lpN 0 a0 a1 a2 a3 a4 (Nat.zero_le N) (by rw [lpN_eq]; omega) h0
theorem nI_mul (a b : Nat) : nI a * nI b = nI (a * b) := (Int32.ofNat_mul a b).symm
theorem nI_m4 (a : Nat) : (4 : Int32) * nI a = nI (4 * a) := nI_mul 4 a
theorem nI_m5 (a : Nat) : (5 : Int32) * nI a = nI (5 * a) := nI_mul 5 a
theorem nI_m8 (a : Nat) : (8 : Int32) * nI a = nI (8 * a) := nI_mul 8 a
theorem nI_m10 (a : Nat) : (10 : Int32) * nI a = nI (10 * a) := nI_mul 10 a
theorem nI_m12 (a : Nat) : (12 : Int32) * nI a = nI (12 * a) := nI_mul 12 a
theorem nI_m24 (a : Nat) : (24 : Int32) * nI a = nI (24 * a) := nI_mul 24 a
theorem nI_m31 (a : Nat) : (31 : Int32) * nI a = nI (31 * a) := nI_mul 31 a
theorem nI_m40 (a : Nat) : (40 : Int32) * nI a = nI (40 * a) := nI_mul 40 a
theorem nI_m60 (a : Nat) : (60 : Int32) * nI a = nI (60 * a) := nI_mul 60 a
theorem nI_m81 (a : Nat) : (81 : Int32) * nI a = nI (81 * a) := nI_mul 81 a
theorem nI_m161 (a : Nat) : (161 : Int32) * nI a = nI (161 * a) := nI_mul 161 a
theorem nI_m170 (a : Nat) : (170 : Int32) * nI a = nI (170 * a) := nI_mul 170 a
theorem nI_p2 (a : Nat) : nI a + 2 = nI (a + 2) := nI_add a 2
theorem nI_p3 (a : Nat) : nI a + 3 = nI (a + 3) := nI_add a 3
theorem nI_p4 (a : Nat) : nI a + 4 = nI (a + 4) := nI_add a 4
theorem nI_p5 (a : Nat) : nI a + 5 = nI (a + 5) := nI_add a 5
theorem nI_p6 (a : Nat) : nI a + 6 = nI (a + 6) := nI_add a 6
theorem b10 {c : Prop} {d : Decidable c} : ((if c then (1 : Int32) else 0) = 0) = ¬ c := by
  by_cases e : c <;> simp [e]
theorem b11 {c : Prop} {d : Decidable c} : ((if c then (1 : Int32) else 0) = 1) = c := by
  by_cases e : c <;> simp [e]
theorem nle2 : ((2 : Int32) = 0) = False := eq_false (by decide)
theorem n24 : ((24 : Int32) = 0) = False := eq_false (by decide)
theorem n10 : ((10 : Int32) = 0) = False := eq_false (by decide)
theorem n1_0 : ((1 : Int32) = 0) = False := eq_false (by decide)
theorem m1neg : ((-1 : Int32) < 0) = True := eq_true (by decide)
theorem am1 (a : Int32) : a + -1 = a - 1 := (Int32.sub_eq_add_neg a 1).symm
theorem n0m1 : (nI 0 - 1 < 0) = True := eq_true (by decide)
theorem nI_z : nI 0 = 0 := by decide
theorem nle {m i : Nat} (h : i < m) : (m ≤ i) = False := eq_false (by omega)
theorem dle {m i : Nat} (h : i < m) : decide (m ≤ i) = false := decide_eq_false (by omega)
theorem nI_neg {n : Nat} (h : n < 2 ^ 31) : (nI n < 0) = False := eq_false (nI_pos h)
theorem nI_ge0 {n : Nat} (h : n < 2 ^ 31) : (0 ≤ nI n) = True := eq_true (nI_pos' h)
theorem nI_neg1 {n : Nat} (h : n < 2 ^ 31) : (nI n = -1) = False := eq_false (fun e => by have := nI_pos' h; rw [e] at this; revert this; decide)
theorem nI_sub {a b : Nat} (h : b ≤ a) : nI a - nI b = nI (a - b) := by
  have : nI a = nI (a - b) + nI b := by rw [nI_add, Nat.sub_add_cancel h]
  rw [this, Int32.add_sub_cancel]
theorem cl_in {c : Int32} {n : Nat} (h0 : 0 ≤ c) (hn : n < 2 ^ 31) (h1 : c < nI n) : c.toNatClampNeg < n := by
  have h2 := nn32 c (Int32.not_lt.mpr h0)
  have h4 := Int32.lt_iff_toInt_lt.mp h1
  rw [nI_toInt hn, h2] at h4
  omega
theorem nI_self {c : Int32} (h0 : 0 ≤ c) : c = nI c.toNatClampNeg := by
  have h2 := nn32 c (Int32.not_lt.mpr h0)
  have hlt : c.toInt < 2 ^ 31 := c.toInt_lt
  apply Int32.toInt_inj.mp
  rw [nI_toInt (by omega), h2]
/-- an int from 0 to one below n is one of the numbers below n -/
theorem nI_in0 {c : Int32} {n : Nat} (h0 : 0 ≤ c) (hn : n < 2 ^ 31) (h1 : c < nI n) : ∃ i : Nat, i < n ∧ c = nI i := ⟨c.toNatClampNeg, cl_in h0 hn h1, nI_self h0⟩
/-- a call whose answer is known and that changes nothing -/
theorem wp_use {α : Type} {o : Option (α × AH)} {v : α} {h : AH} {Q : α → AH → Prop} (e : wp o (fun r h' => r = v ∧ h' = h)) : wp o Q ↔ Q v h := by
  obtain ⟨x, e1, e2, e3⟩ := e
  constructor
  · intro ⟨y, q1, q2⟩
    rw [e1] at q1
    cases q1
    rw [← e2, ← e3]
    exact q2
  · intro q
    exact ⟨x, e1, by rw [e2, e3]; exact q⟩
/-- what is written into another cell -/
theorem q_ne {h : AH} {a k : Nat} {v : Int32} {b : Nat} (e : b ≠ a) : hI (wI h a k v) b = hI h b := by
  funext j
  rw [q_II, if_neg (fun z => e z.1)]
theorem q_at {h : AH} {a k : Nat} {v : Int32} : hI (wI h a k v) a k = v := by rw [q_II, if_pos ⟨rfl, rfl⟩]
theorem q_atne {h : AH} {a k : Nat} {v : Int32} {j : Nat} (e : j ≠ k) : hI (wI h a k v) a j = hI h a j := by rw [q_II, if_neg (fun z => e z.2)]
/-- the number of i < n with p -/
def cnt (p : Nat → Bool) : Nat → Nat
  | 0 => 0
  | n + 1 => cnt p n + (if p n = true then 1 else 0)
/-- the last i < n with p, and what f makes of it; else d -/
def lastOf {α : Type} (p : Nat → Bool) (f : Nat → α) (d : α) : Nat → α
  | 0 => d
  | n + 1 => if p n = true then f n else lastOf p f d n
/-- g for 0, 1 .. n - 1 in turn -/
def foldN {α : Type} (g : Nat → α → α) (x : α) : Nat → α
  | 0 => x
  | n + 1 => g n (foldN g x n)
/-- the first i < n with p, as an int; -1: none -/
def firstOf (p : Nat → Bool) : Nat → Int32
  | 0 => -1
  | n + 1 => if firstOf p n = -1 then (if p n = true then nI n else -1) else firstOf p n
theorem firstOf_none {p : Nat → Bool} {n : Nat} (h : ∀ i, i < n → p i = false) : firstOf p n = -1 := by
  induction n with
  | zero => rfl
  | succ n ih => show (if firstOf p n = -1 then _ else _) = _; rw [ih (fun i hi => h i (by omega)), if_pos rfl, h n (by omega)]; rfl
theorem firstOf_at {p : Nat → Bool} {n i : Nat} (hn : n < 2 ^ 31) (hi : i < n) (h : ∀ j, j < i → p j = false) (hp : p i = true) : firstOf p n = nI i := by
  induction n with
  | zero => omega
  | succ n ih =>
    show (if firstOf p n = -1 then _ else _) = _
    by_cases e : i = n
    · subst e
      rw [firstOf_none h, if_pos rfl, if_pos hp]
    · rw [ih (by omega) (by omega), if_neg]
      intro z
      have := nI_neg1 (show i < 2 ^ 31 by omega)
      rw [this] at z
      exact z
theorem below {p : Nat → Bool} {k : Nat} (h : p k = false) (e : ∀ j, j < k → p j = false) (j : Nat) (hj : j < k + 1) : p j = false := by
  by_cases z : j = k
  · rw [z]; exact h
  · exact e j (by omega)
/-- whether some i < n has p -/
def anyN (p : Nat → Bool) : Nat → Bool
  | 0 => false
  | n + 1 => anyN p n || p n
theorem anyN_none {p : Nat → Bool} {n : Nat} (h : ∀ i, i < n → p i = false) : anyN p n = false := by
  induction n with
  | zero => rfl
  | succ n ih => show (anyN p n || p n) = false; rw [ih (fun i hi => h i (by omega)), h n (by omega)]; rfl
theorem anyN_at {p : Nat → Bool} {n i : Nat} (hi : i < n) (h : p i = true) : anyN p n = true := by
  induction n with
  | zero => omega
  | succ n ih =>
    show (anyN p n || p n) = true
    by_cases e : i = n
    · subst e; rw [h, Bool.or_true]
    · rw [ih (by omega), Bool.true_or]
/-- of the i < n with p one that no later one beats -/
def bestOf (p : Nat → Bool) (bt : Nat → Nat → Bool) : Nat → Option Nat
  | 0 => none
  | n + 1 => if p n = true then (match bestOf p bt n with | none => some n | some j => if bt n j = true then some n else some j) else bestOf p bt n
/-- a number that may be none, as an int -/
def oI (o : Option Nat) : Int32 := match o with | none => -1 | some j => nI j
theorem Lay.s0 {h : AH} (l : Lay h) : (hS h)[0]? = some (11, 6) := l.1 0 (by decide)
theorem Lay.s1 {h : AH} (l : Lay h) : (hS h)[1]? = some (3, 10) := l.1 1 (by decide)
theorem Lay.s2 {h : AH} (l : Lay h) : (hS h)[2]? = some (20, 60) := l.1 2 (by decide)
theorem Lay.s3 {h : AH} (l : Lay h) : (hS h)[3]? = some (25, 150) := l.1 3 (by decide)
theorem Lay.s4 {h : AH} (l : Lay h) : (hS h)[4]? = some (20, 4) := l.1 4 (by decide)
theorem Lay.s5 {h : AH} (l : Lay h) : (hS h)[5]? = some (20, 200) := l.1 5 (by decide)
theorem Lay.s6 {h : AH} (l : Lay h) : (hS h)[6]? = some (20, 200) := l.1 6 (by decide)
theorem Lay.s7 {h : AH} (l : Lay h) : (hS h)[7]? = some (20, 200) := l.1 7 (by decide)
theorem Lay.s8 {h : AH} (l : Lay h) : (hS h)[8]? = some (6, 16) := l.1 8 (by decide)
theorem Lay.s9 {h : AH} (l : Lay h) : (hS h)[9]? = some (8, 11) := l.1 9 (by decide)
theorem Lay.s10 {h : AH} (l : Lay h) : (hS h)[10]? = some (20, 160) := l.1 10 (by decide)
theorem Lay.s11 {h : AH} (l : Lay h) : (hS h)[11]? = some (20, 161) := l.1 11 (by decide)
theorem Lay.s12 {h : AH} (l : Lay h) : (hS h)[12]? = some (20, 161) := l.1 12 (by decide)
theorem Lay.s13 {h : AH} (l : Lay h) : (hS h)[13]? = some (20, 161) := l.1 13 (by decide)
theorem Lay.s14 {h : AH} (l : Lay h) : (hS h)[14]? = some (20, 161) := l.1 14 (by decide)
theorem Lay.s15 {h : AH} (l : Lay h) : (hS h)[15]? = some (20, 20) := l.1 15 (by decide)
theorem Lay.s16 {h : AH} (l : Lay h) : (hS h)[16]? = some (20, 20) := l.1 16 (by decide)
theorem Lay.s17 {h : AH} (l : Lay h) : (hS h)[17]? = some (20, 20) := l.1 17 (by decide)
theorem Lay.s18 {h : AH} (l : Lay h) : (hS h)[18]? = some (20, 3220) := l.1 18 (by decide)
theorem Lay.s19 {h : AH} (l : Lay h) : (hS h)[19]? = some (20, 20) := l.1 19 (by decide)
theorem Lay.s20 {h : AH} (l : Lay h) : (hS h)[20]? = some (20, 64) := l.1 20 (by decide)
theorem Lay.s21 {h : AH} (l : Lay h) : (hS h)[21]? = some (4, 9) := l.1 21 (by decide)
theorem Lay.s22 {h : AH} (l : Lay h) : (hS h)[22]? = some (20, 300) := l.1 22 (by decide)
theorem Lay.s23 {h : AH} (l : Lay h) : (hS h)[23]? = some (23, 300) := l.1 23 (by decide)
theorem Lay.s24 {h : AH} (l : Lay h) : (hS h)[24]? = some (20, 150) := l.1 24 (by decide)
theorem Lay.s25 {h : AH} (l : Lay h) : (hS h)[25]? = some (20, 300) := l.1 25 (by decide)
theorem Lay.s26 {h : AH} (l : Lay h) : (hS h)[26]? = some (20, 300) := l.1 26 (by decide)
theorem Lay.s27 {h : AH} (l : Lay h) : (hS h)[27]? = some (23, 300) := l.1 27 (by decide)
theorem Lay.s28 {h : AH} (l : Lay h) : (hS h)[28]? = some (10, 16) := l.1 28 (by decide)
theorem Lay.s29 {h : AH} (l : Lay h) : (hS h)[29]? = some (20, 7) := l.1 29 (by decide)
theorem Lay.s30 {h : AH} (l : Lay h) : (hS h)[30]? = some (26, 7) := l.1 30 (by decide)
theorem Lay.s31 {h : AH} (l : Lay h) : (hS h)[31]? = some (20, 7) := l.1 31 (by decide)
theorem Lay.s32 {h : AH} (l : Lay h) : (hS h)[32]? = some (20, 7) := l.1 32 (by decide)
theorem Lay.s33 {h : AH} (l : Lay h) : (hS h)[33]? = some (20, 7) := l.1 33 (by decide)
theorem Lay.s34 {h : AH} (l : Lay h) : (hS h)[34]? = some (20, 7) := l.1 34 (by decide)
theorem Lay.s35 {h : AH} (l : Lay h) : (hS h)[35]? = some (27, 6) := l.1 35 (by decide)
theorem Lay.s36 {h : AH} (l : Lay h) : (hS h)[36]? = some (7, 5) := l.1 36 (by decide)
theorem Lay.s37 {h : AH} (l : Lay h) : (hS h)[37]? = some (24, 60) := l.1 37 (by decide)
theorem Lay.s38 {h : AH} (l : Lay h) : (hS h)[38]? = some (7, 5) := l.1 38 (by decide)
theorem Lay.s39 {h : AH} (l : Lay h) : (hS h)[39]? = some (24, 60) := l.1 39 (by decide)
theorem Lay.s40 {h : AH} (l : Lay h) : (hS h)[40]? = some (7, 5) := l.1 40 (by decide)
theorem Lay.s41 {h : AH} (l : Lay h) : (hS h)[41]? = some (24, 60) := l.1 41 (by decide)
theorem Lay.s42 {h : AH} (l : Lay h) : (hS h)[42]? = some (7, 5) := l.1 42 (by decide)
theorem Lay.s43 {h : AH} (l : Lay h) : (hS h)[43]? = some (24, 60) := l.1 43 (by decide)
theorem Lay.s44 {h : AH} (l : Lay h) : (hS h)[44]? = some (7, 5) := l.1 44 (by decide)
theorem Lay.s45 {h : AH} (l : Lay h) : (hS h)[45]? = some (24, 60) := l.1 45 (by decide)
theorem Lay.s46 {h : AH} (l : Lay h) : (hS h)[46]? = some (7, 5) := l.1 46 (by decide)
theorem Lay.s47 {h : AH} (l : Lay h) : (hS h)[47]? = some (24, 60) := l.1 47 (by decide)
theorem Lay.s48 {h : AH} (l : Lay h) : (hS h)[48]? = some (20, 25) := l.1 48 (by decide)
/-! SCRATCH: what stands there counts for no later call -/
/-- of a question asked of the rules -/
def scI (a k : Nat) : Bool := match a with
  | 8 => k == 2 || k == 10 || k == 13 || k == 14 || k == 15
  | 20 => true
  | 49 => k == 45
  | 78 => true | 79 => true
  | _ => false
def scR (a k : Nat) : Bool := a == 8 && (k == 11 || k == 12)
/-- of any call -/
def swI (a k : Nat) : Bool := match a with
  | 8 => k == 2 || k == 10 || k == 13 || k == 14 || k == 15
  | 9 => Nat.ble 5 k
  | 11 => true | 12 => true | 13 => true | 14 => true | 20 => true | 24 => true | 27 => true | 33 => true | 34 => true
  | 28 => k == 8 || Nat.ble 10 k
  | 49 => Nat.ble 26 k && Nat.ble k 32 || k == 45 || Nat.ble 52 k && Nat.ble k 57 || Nat.ble 71 k && Nat.ble k 73 || Nat.ble 77 k && Nat.ble k 79
  | 78 => true | 79 => true | 85 => true | 91 => true | 95 => true | 96 => true | 100 => true | 101 => true
  | _ => false
def swL (a k : Nat) : Bool := match a with
  | 49 => k == 58
  | 99 => true | 106 => true
  | _ => false
theorem swI_sc {a k : Nat} (h : swI a k = false) : scI a k = false := by
  unfold scI
  split
  · exact h
  · exact absurd h (by simp [swI])
  · cases e : k == 45 with
    | false => rfl
    | true => simp [swI, e] at h
  · exact absurd h (by simp [swI])
  · exact absurd h (by simp [swI])
  · rfl
theorem scR_big {a : Nat} (h : 49 ≤ a) (k : Nat) : scR a k = false := by
  unfold scR
  simp [show a ≠ 8 by omega]
/-- nothing changed but scratch of the class -/
def Sc (h h' : AH) : Prop := hS h' = hS h ∧ (∀ a k, (a < 49 → scI a k = false) → hI h' a k = hI h a k) ∧ hL h' = hL h ∧ (∀ a k, scR a k = false → hR h' a k = hR h a k)
/-- nothing changed but scratch of the reference -/
def Sm (h h' : AH) : Prop := hS h' = hS h ∧ (∀ a k, (49 ≤ a → scI a k = false) → hI h' a k = hI h a k) ∧ hL h' = hL h ∧ hR h' = hR h
theorem Sc.refl (h : AH) : Sc h h := ⟨rfl, fun _ _ _ => rfl, rfl, fun _ _ _ => rfl⟩
theorem Sc.trans {h h1 h2 : AH} (a : Sc h h1) (b : Sc h1 h2) : Sc h h2 := ⟨b.1.trans a.1, fun x k e => (b.2.1 x k e).trans (a.2.1 x k e), b.2.2.1.trans a.2.2.1, fun x k e => (b.2.2.2 x k e).trans (a.2.2.2 x k e)⟩
theorem Sc.wI {h h1 : AH} (s : Sc h h1) (a k : Nat) (v : Int32) (ha : a < 49) (e : scI a k = true) : Sc h (wI h1 a k v) := by
  refine ⟨s.1, fun x j z => ?_, s.2.2.1, s.2.2.2⟩
  rw [q_II, if_neg, s.2.1 x j z]
  rintro ⟨rfl, rfl⟩
  rw [z ha] at e
  exact absurd e (by decide)
theorem Sc.wR {h h1 : AH} (s : Sc h h1) (a k : Nat) (v : Option Nat) (e : scR a k = true) : Sc h (wR h1 a k v) := by
  refine ⟨s.1, s.2.1, s.2.2.1, fun x j z => ?_⟩
  rw [q_RR, if_neg, s.2.2.2 x j z]
  rintro ⟨rfl, rfl⟩
  rw [z] at e
  exact absurd e (by decide)
theorem Sm.refl (h : AH) : Sm h h := ⟨rfl, fun _ _ _ => rfl, rfl, rfl⟩
theorem Sm.trans {h h1 h2 : AH} (a : Sm h h1) (b : Sm h1 h2) : Sm h h2 := ⟨b.1.trans a.1, fun x k e => (b.2.1 x k e).trans (a.2.1 x k e), b.2.2.1.trans a.2.2.1, b.2.2.2.trans a.2.2.2⟩
theorem Sm.wI {h h1 : AH} (s : Sm h h1) (a k : Nat) (v : Int32) (ha : 49 ≤ a) (e : scI a k = true) : Sm h (wI h1 a k v) := by
  refine ⟨s.1, fun x j z => ?_, s.2.2.1, s.2.2.2⟩
  rw [q_II, if_neg, s.2.1 x j z]
  rintro ⟨rfl, rfl⟩
  rw [z ha] at e
  exact absurd e (by decide)
/-- nothing changed but scratch of the class, of any call -/
def Sd (h h' : AH) : Prop := hS h' = hS h ∧ (∀ a k, (a < 49 → swI a k = false) → hI h' a k = hI h a k) ∧ hL h' = hL h ∧ (∀ a k, scR a k = false → hR h' a k = hR h a k)
/-- nothing changed but scratch of the reference, of any call -/
def Sv (h h' : AH) : Prop := hS h' = hS h ∧ (∀ a k, (49 ≤ a → swI a k = false) → hI h' a k = hI h a k) ∧ (∀ a k, (49 ≤ a → swL a k = false) → hL h' a k = hL h a k) ∧ hR h' = hR h
theorem Sc.sd {h h1 : AH} (s : Sc h h1) : Sd h h1 := ⟨s.1, fun a k e => s.2.1 a k (fun z => swI_sc (e z)), s.2.2.1, s.2.2.2⟩
theorem Sd.refl (h : AH) : Sd h h := ⟨rfl, fun _ _ _ => rfl, rfl, fun _ _ _ => rfl⟩
theorem Sd.trans {h h1 h2 : AH} (a : Sd h h1) (b : Sd h1 h2) : Sd h h2 := ⟨b.1.trans a.1, fun x k e => (b.2.1 x k e).trans (a.2.1 x k e), b.2.2.1.trans a.2.2.1, fun x k e => (b.2.2.2 x k e).trans (a.2.2.2 x k e)⟩
theorem Sd.wI {h h1 : AH} (s : Sd h h1) (a k : Nat) (v : Int32) (ha : a < 49) (e : swI a k = true) : Sd h (wI h1 a k v) := by
  refine ⟨s.1, fun x j z => ?_, s.2.2.1, s.2.2.2⟩
  rw [q_II, if_neg, s.2.1 x j z]
  rintro ⟨rfl, rfl⟩
  rw [z ha] at e
  exact absurd e (by decide)
theorem Sv.refl (h : AH) : Sv h h := ⟨rfl, fun _ _ _ => rfl, fun _ _ _ => rfl, rfl⟩
theorem Sv.trans {h h1 h2 : AH} (a : Sv h h1) (b : Sv h1 h2) : Sv h h2 := ⟨b.1.trans a.1, fun x k e => (b.2.1 x k e).trans (a.2.1 x k e), fun x k e => (b.2.2.1 x k e).trans (a.2.2.1 x k e), b.2.2.2.trans a.2.2.2⟩
theorem Sv.wI {h h1 : AH} (s : Sv h h1) (a k : Nat) (v : Int32) (ha : 49 ≤ a) (e : swI a k = true) : Sv h (wI h1 a k v) := by
  refine ⟨s.1, fun x j z => ?_, s.2.2.1, s.2.2.2⟩
  rw [q_II, if_neg, s.2.1 x j z]
  rintro ⟨rfl, rfl⟩
  rw [z ha] at e
  exact absurd e (by decide)
theorem Lay.sd {h h1 : AH} (l : Lay h) (s : Sd h h1) : Lay h1 := by
  refine ⟨fun a ha => by rw [s.1]; exact l.1 a ha, fun q hq => ?_⟩
  rw [s.2.2.2 _ _ (List.all_eq_true.mp (show tR.all (fun q => !scR q.1 q.2.1) = true by decide) q hq |> fun z => by simpa using z)]
  exact l.2 q hq
theorem Lay.sc {h h1 : AH} (l : Lay h) (s : Sc h h1) : Lay h1 := l.sd s.sd
/-! RM: the reference's cells hold the world w (its texts, cells 72 .. 77, aside) -/
/-- the class's cells changed alone -/
def SM (h h' : AH) : Prop := ∃ M, hS h' = hS h ++ M
theorem SM.refl (h : AH) : SM h h := ⟨[], (List.append_nil _).symm⟩
theorem SM.trans {h h1 h2 : AH} (a : SM h h1) (b : SM h1 h2) : SM h h2 := by
  obtain ⟨M, e⟩ := a
  obtain ⟨N, f⟩ := b
  exact ⟨M ++ N, by rw [f, e, List.append_assoc]⟩
theorem SM.of {h h' : AH} (e : hS h' = hS h) : SM h h' := ⟨[], e.trans (List.append_nil _).symm⟩
theorem Sd.SM {h h' : AH} (s : Sd h h') : SM h h' := ⟨[], s.1.trans (List.append_nil _).symm⟩
theorem Sc.SM {h h' : AH} (s : Sc h h') : SM h h' := s.sd.SM
theorem SM.wI {h h1 : AH} (s : SM h h1) (a k : Nat) (v : Int32) (e : a < 49 ∨ 49 ≤ a) : SM h (wI h1 a k v) := s
theorem SM.wR {h h1 : AH} (s : SM h h1) (a k : Nat) (v : Option Nat) : SM h (wR h1 a k v) := s
