/-! rule: the parser as both run it, over tokens S and what they lay V: a fault's token, or the token behind and what was laid -/
abbrev Prs : Type := Except Nat (Nat × List Ins)
def pbd (r : Prs) (f : Nat → Prs) : Prs := match r with
  | .error e => .error e
  | .ok (j, c) => match f j with
    | .error e => .error e
    | .ok (k, d) => .ok (k, c ++ d)
theorem pbd_ok (j : Nat) (c : List Ins) (f : Nat → Prs) : pbd (.ok (j, c)) f = match f j with
    | .error e => .error e
    | .ok (k, d) => .ok (k, c ++ d) := rfl
theorem pbd_oo {j k : Nat} {c d : List Ins} {f : Nat → Prs} (e : f j = .ok (k, d)) : pbd (.ok (j, c)) f = .ok (k, c ++ d) := by rw [pbd_ok, e]
theorem pbd_oe {j p : Nat} {c : List Ins} {f : Nat → Prs} (e : f j = .error p) : pbd (.ok (j, c)) f = .error p := by rw [pbd_ok, e]
theorem pbd_0 (j : Nat) (f : Nat → Prs) : pbd (.ok (j, [])) f = f j := by
  rw [pbd_ok]
  cases f j with
  | error e => rfl
  | ok x => rfl
theorem pbd_ret (r : Prs) : pbd r (fun j => .ok (j, [])) = r := by
  cases r with
  | error e => rfl
  | ok x => exact (pbd_ok _ _ _).trans (by show Except.ok (x.1, x.2 ++ []) = _; rw [List.append_nil])
theorem pbd_assoc (r : Prs) (f g : Nat → Prs) : pbd (pbd r f) g = pbd r (fun j => pbd (f j) g) := by
  cases r with
  | error e => rfl
  | ok x =>
    obtain ⟨j, c⟩ := x
    rw [pbd_ok, pbd_ok]
    cases hf : f j with
    | error e => rfl
    | ok y =>
      obtain ⟨k, d⟩ := y
      show pbd (.ok (k, c ++ d)) g = match pbd (.ok (k, d)) g with | .error e => .error e | .ok (l, q) => .ok (l, c ++ q)
      rw [pbd_ok, pbd_ok]
      cases hg : g k with
      | error e => rfl
      | ok z =>
        show Except.ok (z.1, c ++ d ++ z.2) = Except.ok (z.1, c ++ (d ++ z.2))
        rw [List.append_assoc]
/-- a prefix of what was laid is only put ahead -/
theorem pbd_cong {s : Prs} {f g : Nat → Prs} (h : ∀ i c, s = .ok (i, c) → f i = g i) : pbd s f = pbd s g := by
  cases s with
  | error e => rfl
  | ok x =>
    obtain ⟨i, c⟩ := x
    rw [pbd_ok, pbd_ok, h i c rfl]
def pAdv (j : Nat) : Prs := .ok (j + 1, [])
def pLay (e : Ins) (j : Nat) : Prs := .ok (j, [e])
def pErr (j : Nat) : Prs := .error j
def pLays (e : Ins) : Nat → Nat → Prs
  | 0, j => .ok (j, [])
  | n + 1, j => pbd (pLay e j) (pLays e n)
def pExp (S : Nat → Int32) (sg : Int32) (j : Nat) : Prs := if S j = sg then pAdv j else .error j
def pMany (S : Nat → Int32) (op : Int32 → Option Ins) (X : Nat → Prs) : Nat → Nat → Prs
  | 0, i => .ok (i, [])
  | f + 1, i => match op (S i) with
    | none => .ok (i, [])
    | some e => pbd (pbd (pbd (pAdv i) X) (pLay e)) (pMany S op X f)
def opO (t : Int32) : Option Ins := if t = 311 then some (2, 0) else none
def opA (t : Int32) : Option Ins := if t = 312 then some (3, 0) else none
def opC (t : Int32) : Option Ins := if t = 60 then some (4, 0) else if t = 61 then some (5, 0) else if t = 62 then some (6, 0) else none
def opS (t : Int32) : Option Ins := if t = 43 then some (7, 0) else if t = 45 then some (8, 0) else none
def opP (t : Int32) : Option Ins := if t = 42 then some (9, 0) else if t = 47 then some (10, 0) else if t = 37 then some (11, 0) else none
/-- O, where so many may still be opened -/
def pOne (S : Nat → Int32) (V : Nat → Ins) (E : Nat → Nat → Prs) : Nat → Nat → Prs
  | 0, i => if S i = 2 ∨ S i = 3 then .ok (i + 1, [V i]) else .error i
  | r + 1, i => if S i = 45 then pbd (pbd (pAdv i) (pOne S V E r)) (pLay (12, 0)) else if S i = 2 ∨ S i = 3 then .ok (i + 1, [V i]) else if S i = 40 then pbd (pbd (pAdv i) (E r)) (pExp S 41) else .error i
def pProd (S : Nat → Int32) (V : Nat → Ins) (E : Nat → Nat → Prs) (r i : Nat) : Prs := pbd (pOne S V E r i) (pMany S opP (pOne S V E r) 160)
def pSum (S : Nat → Int32) (V : Nat → Ins) (E : Nat → Nat → Prs) (r i : Nat) : Prs := pbd (pProd S V E r i) (pMany S opS (pProd S V E r) 160)
def pCmp (S : Nat → Int32) (V : Nat → Ins) (E : Nat → Nat → Prs) (r i : Nat) : Prs := pbd (pSum S V E r i) (pMany S opC (pSum S V E r) 1)
def pDen (S : Nat → Int32) (V : Nat → Ins) (E : Nat → Nat → Prs) : Nat → Nat → Prs
  | 0, i => if S i = 313 then .error i else pCmp S V E 0 i
  | r + 1, i => if S i = 313 then pbd (pbd (pAdv i) (pDen S V E r)) (pLay (13, 0)) else pCmp S V E (r + 1) i
def pBoth (S : Nat → Int32) (V : Nat → Ins) (E : Nat → Nat → Prs) (r i : Nat) : Prs := pbd (pDen S V E r i) (pMany S opA (pDen S V E r) 160)
def pEit (S : Nat → Int32) (V : Nat → Ins) (E : Nat → Nat → Prs) (r i : Nat) : Prs := pbd (pBoth S V E r i) (pMany S opO (pBoth S V E r) 160)
/-- E, k of them in one another at the most -/
def pEi (S : Nat → Int32) (V : Nat → Ins) : Nat → Nat → Nat → Prs
  | 0 => fun _ i => .error i
  | k + 1 => pEit S V (pEi S V k)
theorem pMany_none {S : Nat → Int32} {op : Int32 → Option Ins} {X : Nat → Prs} {f i : Nat} (h : op (S i) = none) : pMany S op X f i = .ok (i, []) := by
  cases f with
  | zero => rfl
  | succ f =>
    show (match op (S i) with | none => _ | some e => _) = _
    rw [h]
theorem pMany_some {S : Nat → Int32} {op : Int32 → Option Ins} {X : Nat → Prs} {f i : Nat} {e : Ins} (h : op (S i) = some e) : pMany S op X (f + 1) i = pbd (pbd (pbd (pAdv i) X) (pLay e)) (pMany S op X f) := by
  show (match op (S i) with | none => _ | some e => _) = _
  rw [h]
/-- one turn of a loop -/
theorem pMany_turn {S : Nat → Int32} {op : Int32 → Option Ins} {X : Nat → Prs} {f i : Nat} {c : List Ins} {e : Ins} (h : op (S i) = some e) : pbd (pbd (pbd (pbd (.ok (i, c)) pAdv) X) (pLay e)) (pMany S op X f) = pbd (.ok (i, c)) (pMany S op X (f + 1)) := by
  rw [pbd_ok i c (pMany S op X (f + 1)), pMany_some h, ← pbd_ok i c (fun i => pbd (pbd (pbd (pAdv i) X) (pLay e)) (pMany S op X f))]
  rw [pbd_assoc, pbd_assoc, pbd_assoc]
  refine pbd_cong (fun j d _ => ?_)
  rw [pbd_assoc, pbd_assoc]
theorem pLays_s (s : Prs) (e : Ins) (n : Nat) : pbd (pbd s (pLay e)) (pLays e n) = pbd s (pLays e (n + 1)) := by
  rw [pbd_assoc]; rfl
/-- the tokens of the tape -/
def tokS (w : AH) (i : Nat) : Int32 := tkSort w (plc w i)
def tokV (w : AH) (i : Nat) : Ins := if tokS w i = 2 then (0, tkVal w (plc w i)) else (1, -1 - tkVal w (plc w i))
/-- the class's tokens as they were read -/
def TkC (w h0 : AH) (m : Nat) : Prop := m ≤ 160 ∧ TkR w h0 m ∧ plc w m = lenT w ∧ hI h0 12 m = nI (plc w m) ∧ hI h0 11 m = 0 ∧ lenT w ≤ 160
theorem tS_end {w : AH} {m : Nat} (e : plc w m = lenT w) : tokS w m = 0 := by
  unfold tokS tkSort
  rw [e, if_neg (by omega)]
theorem TkC.s {w h0 : AH} {m : Nat} (T : TkC w h0 m) {i : Nat} (hi : i ≤ m) : hI h0 11 i = tokS w i := by
  by_cases c : i = m
  · rw [c, T.2.2.2.2.1, tS_end T.2.2.1]
  · exact (T.2.1 i (by omega)).2.2.1
theorem TkC.p {w h0 : AH} {m : Nat} (T : TkC w h0 m) {i : Nat} (hi : i ≤ m) : hI h0 12 i = nI (plc w i) ∧ plc w i ≤ lenT w := by
  by_cases c : i = m
  · rw [c]; exact ⟨T.2.2.2.1, by rw [T.2.2.1]; omega⟩
  · exact ⟨(T.2.1 i (by omega)).2.1, by have := (T.2.1 i (by omega)).1; omega⟩
theorem TkC.lt {w h0 : AH} {m : Nat} (T : TkC w h0 m) {i : Nat} (hi : i ≤ m) (h : tokS w i ≠ 0) : i < m := by
  by_cases c : i = m
  · rw [c, tS_end T.2.2.1] at h; exact absurd rfl h
  · omega
theorem sign_tok {b : Nat} (h : signB b = true) : nI b ≠ 2 ∧ nI b ≠ 3 := by
  have : b = 59 ∨ b = 58 ∨ b = 60 ∨ b = 62 ∨ b = 61 ∨ b = 43 ∨ b = 45 ∨ b = 42 ∨ b = 47 ∨ b = 37 ∨ b = 40 ∨ b = 41 := by
    unfold signB at h
    simpa using h
  rcases this with rfl | rfl | rfl | rfl | rfl | rfl | rfl | rfl | rfl | rfl | rfl | rfl <;> decide
theorem tk_num {w : AH} {b : Nat} (h : tkSort w b = 2 ∨ tkSort w b = 3) : isLet (byN w b) = true ∨ isDig (byN w b) = true := by
  unfold tkSort at h
  by_cases c : b < lenT w
  · rw [if_pos c] at h
    by_cases L : isLet (byN w b) = true
    · exact Or.inl L
    · rw [if_neg L] at h
      by_cases D : isDig (byN w b) = true
      · exact Or.inr D
      · rw [if_neg D] at h
        by_cases G : signB (byN w b) = true
        · rw [if_pos G] at h
          have := sign_tok G
          exact absurd h (by rintro (q | q) <;> simp_all)
        · rw [if_neg G] at h
          exact absurd h (by decide)
  · rw [if_neg c] at h
    exact absurd h (by decide)
theorem TkC.v {w h0 : AH} {m : Nat} (T : TkC w h0 m) {i : Nat} (hi : i < m) (h : tokS w i = 2 ∨ tokS w i = 3) : hI h0 13 i = encI (tokV w i) := by
  rw [(T.2.1 i hi).2.2.2 (tk_num h)]
  unfold tokV
  by_cases c : tokS w i = 2
  · rw [if_pos c]; rfl
  · rw [if_neg c]
    show _ = -1 - (-1 - tkVal w (plc w i))
    grind
