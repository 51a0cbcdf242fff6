/-! WHAT A TEXT GIVES: a pile (how many, and what lies where), a step, all steps, the lines -/
def updN (s : Nat → Int32) (k : Nat) (v : Int32) : Nat → Int32 := fun i => if i = k then v else s i
def two_ (t : Nat) (a b : Int32) : Int32 := match t with
  | 2 => if a = 0 ∧ b = 0 then 0 else 1
  | 3 => if a = 0 ∨ b = 0 then 0 else 1
  | 4 => if a < b then 1 else 0
  | 5 => if a = b then 1 else 0
  | 6 => if b < a then 1 else 0
  | 7 => a + b
  | 8 => a - b
  | 9 => a * b
  | 10 => if b = 0 then 0 else a / b
  | _ => if b = 0 then 0 else a - a / b * b
abbrev Pile : Type := Nat × (Nat → Int32)
def stp (F : Nat → Int32) (q : Pile) (i : Ins) : Pile :=
  if i.1 = 0 then (q.1 + 1, updN q.2 q.1 i.2)
  else if i.1 = 1 then (q.1 + 1, updN q.2 q.1 (F i.2.toNatClampNeg))
  else if i.1 = 12 then (q.1, updN q.2 (q.1 - 1) (-(q.2 (q.1 - 1))))
  else if i.1 = 13 then (q.1, updN q.2 (q.1 - 1) (if q.2 (q.1 - 1) = 0 then 1 else 0))
  else (q.1 - 1, updN q.2 (q.1 - 2) (two_ i.1 (q.2 (q.1 - 2)) (q.2 (q.1 - 1))))
def nul : Pile := (0, fun _ => 0)
def valI (F : Nat → Int32) (c : List Ins) : Int32 := (c.foldl (stp F) nul).2 0
def lineCounts (F : Nat → Int32) (l : Line) : Bool := l.1 == 0 || (decide (valI F l.2.1 ≠ 0) == (l.1 == 1))
def progV (F : Nat → Int32) : Prog → Nat → Int32 × Int32
  | [], _ => (0, -1)
  | l :: r, k => if lineCounts F l = true then (valI F l.2.2, nI k) else progV F r (k + 1)
/-- the same over the one row -/
def crun (F : Nat → Int32) : List Ins → Pile → Nat → Bool → Int32 × Int32
  | [], _, _, _ => (0, -1)
  | i :: r, q, k, ct => if i.1 < 14 then crun F r (stp F q i) k ct else if i.1 < 16 then crun F r nul k (decide (q.2 (q.1 - 1) ≠ 0) == (i.1 == 14)) else if ct = true then (q.2 (q.1 - 1), nI k) else crun F r nul (k + 1) true
def cchk : Nat → List Ins → Bool
  | d, [] => d == 0
  | d, i :: r => if i.1 < 2 then decide (d < 40) && cchk (d + 1) r else if i.1 < 12 then decide (2 ≤ d) && cchk (d - 1) r else if i.1 < 14 then decide (1 ≤ d) && cchk d r else decide (d = 1) && cchk 0 r
theorem crun_code (F : Nat → Int32) (c : List Ins) (hc : ∀ i ∈ c, i.1 ≤ 13) (r : List Ins) (q : Pile) (k : Nat) (ct : Bool) : crun F (c ++ r) q k ct = crun F r (c.foldl (stp F) q) k ct := by
  induction c generalizing q with
  | nil => rfl
  | cons i c ih =>
    show (if i.1 < 14 then crun F (c ++ r) (stp F q i) k ct else _) = _
    rw [if_pos (by have := hc i List.mem_cons_self; omega), ih (fun j hj => hc j (List.mem_cons_of_mem _ hj))]
    rfl
theorem cchk_code (c : List Ins) (hc : ∀ i ∈ c, i.1 ≤ 13) (r : List Ins) (d e : Nat) (h : chk d c = some e) : cchk d (c ++ r) = cchk e r := by
  induction c generalizing d with
  | nil => cases h; rfl
  | cons i c ih =>
    have hi := hc i List.mem_cons_self
    have ih := fun d h => ih (fun j hj => hc j (List.mem_cons_of_mem _ hj)) d h
    show (if i.1 < 2 then decide (d < 40) && cchk (d + 1) (c ++ r) else if i.1 < 12 then decide (2 ≤ d) && cchk (d - 1) (c ++ r) else if i.1 < 14 then decide (1 ≤ d) && cchk d (c ++ r) else decide (d = 1) && cchk 0 (c ++ r)) = cchk e r
    unfold chk at h
    by_cases a : i.1 < 2
    · rw [if_pos a] at h ⊢
      by_cases b : d < 40
      · rw [if_pos b] at h; rw [ih _ h]; simp [b]
      · rw [if_neg b] at h; cases h
    rw [if_neg a] at h ⊢
    by_cases a2 : i.1 < 12
    · rw [if_neg (by omega)] at h
      rw [if_pos a2]
      by_cases b : 2 ≤ d
      · rw [if_pos b] at h; rw [ih _ h]; simp [b]
      · rw [if_neg b] at h; cases h
    · rw [if_pos (by omega)] at h
      rw [if_neg a2, if_pos (by omega)]
      by_cases b : 1 ≤ d
      · rw [if_pos b] at h; rw [ih _ h]; simp [b]
      · rw [if_neg b] at h; cases h
theorem stp_chk {F : Nat → Int32} {c : List Ins} {q : Pile} {e : Nat} (hc : ∀ i ∈ c, i.1 ≤ 13) (h : chk q.1 c = some e) : (c.foldl (stp F) q).1 = e := by
  induction c generalizing q with
  | nil => cases h; rfl
  | cons i c ih =>
    have hi := hc i List.mem_cons_self
    have ih := fun q h => ih (q := q) (fun j hj => hc j (List.mem_cons_of_mem _ hj)) h
    show (c.foldl (stp F) (stp F q i)).1 = e
    unfold chk at h
    by_cases a : i.1 < 2
    · rw [if_pos a] at h
      by_cases b : q.1 < 40
      · rw [if_pos b] at h
        refine ih _ ?_
        rw [show (stp F q i).1 = q.1 + 1 from ?_]
        · exact h
        · unfold stp
          by_cases z : i.1 = 0
          · rw [if_pos z]
          · rw [if_neg z, if_pos (by omega)]
      · rw [if_neg b] at h; cases h
    rw [if_neg a] at h
    by_cases a2 : 12 ≤ i.1
    · rw [if_pos a2] at h
      by_cases b : 1 ≤ q.1
      · rw [if_pos b] at h
        refine ih _ ?_
        rw [show (stp F q i).1 = q.1 from ?_]
        · exact h
        · unfold stp
          rw [if_neg (by omega), if_neg (by omega)]
          by_cases z : i.1 = 12
          · rw [if_pos z]
          · rw [if_neg z, if_pos (by omega)]
      · rw [if_neg b] at h; cases h
    · rw [if_neg a2] at h
      by_cases b : 2 ≤ q.1
      · rw [if_pos b] at h
        refine ih _ ?_
        rw [show (stp F q i).1 = q.1 - 1 from ?_]
        · exact h
        · unfold stp
          rw [if_neg (by omega), if_neg (by omega), if_neg (by omega), if_neg (by omega)]
      · rw [if_neg b] at h; cases h
theorem insOk_13 {c : List Ins} (h : ∀ i ∈ c, insOk i) : ∀ i ∈ c, i.1 ≤ 13 := fun i hi => (h i hi).1
theorem crun_prog (F : Nat → Int32) (p : Prog) (hp : ∀ l ∈ p, lineOk l) (k : Nat) : crun F (codeP p) nul k true = progV F p k := by
  induction p generalizing k with
  | nil => rfl
  | cons l p ih =>
    obtain ⟨h1, h2, h3, h4, h5, h6⟩ := hp l List.mem_cons_self
    have ih := fun k => ih (fun l hl => hp l (List.mem_cons_of_mem _ hl)) k
    have e2 := stp_chk (F := F) (q := nul) (insOk_13 h6) h4
    have body : ∀ ct, crun F (l.2.2 ++ ((16, 0) :: codeP p)) nul k ct = if ct = true then (valI F l.2.2, nI k) else crun F (codeP p) nul (k + 1) true := fun ct => by
      rw [crun_code F _ (insOk_13 h6)]
      show (if (16 : Nat) < 14 then _ else if (16 : Nat) < 16 then _ else if ct = true then ((l.2.2.foldl (stp F) nul).2 ((l.2.2.foldl (stp F) nul).1 - 1), nI k) else _) = _
      rw [if_neg (by decide), if_neg (by decide), e2]
      rfl
    have e : codeP (l :: p) = (if l.1 = 0 then [] else l.2.1 ++ [(if l.1 = 1 then 14 else 15, 0)]) ++ (l.2.2 ++ ((16, 0) :: codeP p)) := by
      show codeL l ++ codeP p = _
      unfold codeL
      simp only [List.append_assoc, List.cons_append, List.nil_append]
    rw [e]
    show _ = (if lineCounts F l = true then (valI F l.2.2, nI k) else progV F p (k + 1))
    rw [← ih]
    unfold lineCounts
    by_cases z : l.1 = 0
    · rw [if_pos z, List.nil_append, body]
      simp [z]
    · have e1 := stp_chk (F := F) (q := nul) (insOk_13 h5) (h3 z)
      rw [if_neg z, List.append_assoc, crun_code F _ (insOk_13 h5)]
      show (if (if l.1 = 1 then 14 else 15) < 14 then _ else if (if l.1 = 1 then 14 else 15) < 16 then crun F (l.2.2 ++ ((16, 0) :: codeP p)) nul k (decide ((l.2.1.foldl (stp F) nul).2 ((l.2.1.foldl (stp F) nul).1 - 1) ≠ 0) == ((if l.1 = 1 then 14 else 15) == 14)) else _) = _
      rw [if_neg (by split <;> omega), if_pos (by split <;> omega), body, e1]
      have z0 : (l.1 == 0) = false := by simp [z]
      rw [z0, Bool.false_or]
      by_cases z1 : l.1 = 1
      · by_cases z2 : (List.foldl (stp F) nul l.2.1).2 0 = 0 <;> simp [z1, z2, valI]
      · have z3 : (l.1 == 1) = false := by simp [z1]
        by_cases z2 : (List.foldl (stp F) nul l.2.1).2 0 = 0 <;> simp [z1, z2, z3, valI]
theorem cchk_prog (p : Prog) (hp : ∀ l ∈ p, lineOk l) : cchk 0 (codeP p) = true := by
  induction p with
  | nil => rfl
  | cons l p ih =>
    obtain ⟨h1, h2, h3, h4, h5, h6⟩ := hp l List.mem_cons_self
    have ih := ih (fun l hl => hp l (List.mem_cons_of_mem _ hl))
    have body : cchk 0 (l.2.2 ++ ((16, 0) :: codeP p)) = true := by
      rw [cchk_code _ (insOk_13 h6) _ _ _ h4]
      show (if (16 : Nat) < 2 then _ else if (16 : Nat) < 12 then _ else if (16 : Nat) < 14 then _ else decide ((1 : Nat) = 1) && cchk 0 (codeP p)) = true
      rw [ih]
      simp
    have e : codeP (l :: p) = (if l.1 = 0 then [] else l.2.1 ++ [(if l.1 = 1 then 14 else 15, 0)]) ++ (l.2.2 ++ ((16, 0) :: codeP p)) := by
      show codeL l ++ codeP p = _
      unfold codeL
      simp only [List.append_assoc, List.cons_append, List.nil_append]
    rw [e]
    by_cases z : l.1 = 0
    · rw [if_pos z, List.nil_append, body]
    · rw [if_neg z, List.append_assoc, cchk_code _ (insOk_13 h5) _ _ _ (h3 z)]
      show (if (if l.1 = 1 then 14 else 15) < 2 then _ else if (if l.1 = 1 then 14 else 15) < 12 then _ else if (if l.1 = 1 then 14 else 15) < 14 then _ else decide ((1 : Nat) = 1) && cchk 0 (l.2.2 ++ ((16, 0) :: codeP p))) = true
      rw [if_neg (by split <;> omega), if_neg (by split <;> omega), if_neg (by split <;> omega), body]
      rfl
/-- what a question's NAMES are -/
def fx (w : AH) (day : Int32) (f b : Option Nat) (kind cell hour : Int32) (k : Nat) : Int32 := match k with
  | 0 => day
  | 1 => kind
  | 2 => (match f with | none => 0 | some f => nI (own_ w (nI f)))
  | 3 => (match f with | none => 0 | some f => day - hI w 53 f)
  | 4 => (match b with | none => 0 | some b => day - hI w 53 b)
  | 5 => (match b with | none => 0 | some b => nI (finds_ w b))
  | 6 => (match b with | none => 0 | some b => nI (misses_ w b))
  | 7 => hour
  | 8 => (match f with | none => 0 | some f => if cell < 0 then 0 else far_ (hI w 52 f) cell)
  | 9 => (match f with | none => 0 | some f => (match b with | none => 0 | some b => if onPaper_ w (nI f) b = true then 1 else 0))
  | 10 => (match f with | none => 0 | some f => (match b with | none => 0 | some b => if hI w 55 b = nI f then 1 else 0))
  | _ => 0
def force_ (w : AH) (use d k : Int32) : Option Nat := lastOf (fun t => decide (hI w 69 t = use ∧ hI w 70 t ≤ k ∧ hI w 71 t ≤ d)) some none (nT w)
/-- what a use gives, and by which line -/
def ans_ (w : AH) (P : Nat → Prog) (use d : Int32) (F : Nat → Int32) (wo : Int32) : Int32 × Int32 := match force_ w use d (hI w 49 1) with | none => (wo, -1) | some t => progV F (P t) 0
