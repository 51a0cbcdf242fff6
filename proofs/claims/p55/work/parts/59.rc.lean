/-! texts as rows of steps: 0 a number, 1 a name, 2 or, 3 and, 4 <, 5 =, 6 >, 7 +, 8 -, 9 *, 10 /, 11 %, 12 minus ahead, 13 not -/
abbrev Ins : Type := Nat × Int32
abbrev Line : Type := Nat × List Ins × List Ins
abbrev Prog : Type := List Line
def encI (i : Ins) : Int32 := match i.1 with | 0 => i.2 | 1 => -1 - i.2 | 2 => -21 | 3 => -22 | 4 => -23 | 5 => -24 | 6 => -25 | 7 => -26 | 8 => -27 | 9 => -28 | 10 => -29 | 11 => -30 | 12 => -31 | 13 => -32 | 14 => -33 | 15 => -34 | _ => -35
/-- a line as one row: its condition, 14 (if) or 15 (unless), what it gives, 16 -/
def codeL (l : Line) : List Ins := (if l.1 = 0 then [] else l.2.1 ++ [(if l.1 = 1 then 14 else 15, 0)]) ++ (l.2.2 ++ [(16, 0)])
def codeP (p : Prog) : List Ins := p.flatMap codeL
def encP (p : Prog) : List Int32 := (codeP p).map encI
def actI (i : Ins) : Int32 := match i.1 with | 0 => 1 | 1 => 2 | 2 => 6 | 3 => 5 | 4 => 7 | 5 => 8 | 6 => 9 | 7 => 43 | 8 => 45 | 9 => 42 | 10 => 47 | 11 => 37 | 12 => 4 | _ => 3
def withI (i : Ins) : Int32 := match i.1 with | 0 => i.2 | 1 => i.2 | _ => 0
def flatP (p : Prog) : List Ins := p.flatMap (fun l => l.2.1 ++ l.2.2)
def offP (p : Prog) (l : Nat) : Nat := (flatP (p.take l)).length
/-- so deep stand the steps' numbers on one another: from d on; none: too few, or too many -/
def chk : Nat → List Ins → Option Nat
  | d, [] => some d
  | d, i :: r => if i.1 < 2 then (if d < 40 then chk (d + 1) r else none) else if 12 ≤ i.1 then (if 1 ≤ d then chk d r else none) else (if 2 ≤ d then chk (d - 1) r else none)
def insOk (i : Ins) : Prop := i.1 ≤ 13 ∧ (i.1 = 0 → 0 ≤ i.2 ∧ i.2 ≤ 99999) ∧ (i.1 = 1 → 0 ≤ i.2 ∧ i.2 ≤ 10)
def lineOk (l : Line) : Prop := l.1 ≤ 2 ∧ (l.1 = 0 → l.2.1 = []) ∧ (l.1 ≠ 0 → chk 0 l.2.1 = some 1) ∧ chk 0 l.2.2 = some 1 ∧ (∀ i ∈ l.2.1, insOk i) ∧ ∀ i ∈ l.2.2, insOk i
def WG (w : AH) (P : Nat → Prog) : Prop := ∀ t, t < nT w → ∀ l ∈ P t, lineOk l
/-! the class's other cells -/
def Rr (h w : AH) (P : Nat → Prog) : Prop := hI h 8 1 = hI w 49 33 ∧ hI h 15 = hI w 69 ∧ hI h 16 = hI w 70 ∧ hI h 17 = hI w 71 ∧ ∀ t, t < nT w → (encP (P t)).length ≤ 161 ∧ hI h 19 t = nI (encP (P t)).length ∧ ∀ k, k < (encP (P t)).length → hI h 18 (161 * t + k) = (encP (P t)).getD k 0
def Rt (h w : AH) : Prop := hI h 9 0 = hI w 49 25 ∧ ∀ i, i < 160 → hI h 10 i = hI w 68 i &&& 255
def Rk (h w : AH) (ad : Nat → Nat) : Prop := hI h 28 0 = hI w 49 65 ∧ (∀ i, i < nW w → hR h 30 i = some (ad (hI w 92 i).toNatClampNeg)) ∧ hI h 31 = hI w 93 ∧ hI h 32 = hI w 94 ∧ hI h 28 1 = hI w 49 76 ∧ hI h 28 2 = (if hI w 49 75 < 0 then 0 else hI w 49 75) ∧ hI h 29 = hI w 97
def shelfAt_ (h w : AH) (ad : Nat → Nat) (s a : Nat) : Prop := hR h a 0 = (if 0 ≤ hI w 103 s then some (ad (hI w 103 s).toNatClampNeg) else none) ∧ hI h a 1 = (if hI w 103 s ≤ -2 then 1 else 0) ∧ (hI w 103 s ≤ -2 → hI h a 2 = -2 - hI w 103 s ∧ hI h a 3 = hI w 104 s ∧ ∀ i, i < 60 → hL h (a + 1) i = hL w 105 (60 * s + i))
def Rs (h w : AH) (ad : Nat → Nat) : Prop := ∀ s, s < 6 → shelfAt_ h w ad s (36 + 2 * s)
def Ra (h w : AH) : Prop := hI h 48 24 = hI w 49 84 ∧ ∀ i, i < 24 → hI h 48 i = hI w 102 i
def bitOf (v : Int32) : Int32 := 1 <<< (v &&& 31)
def letters_ (w : AH) (b : Nat) : Int32 := foldN (fun k v => (v ||| (if hI w 82 (8 * b + k) = 6 then 0 else bitOf (hI w 82 (8 * b + k)))) ||| (if hI w 81 (8 * b + k) ≤ 2 then bitOf (hI w 83 (8 * b + k)) else 0)) 0 (hI w 80 b).toNatClampNeg
def told_ (w : AH) (b : Nat) (s : Int32) : Option Nat := lastOf (fun k => decide (hI w 81 (8 * b + k) = s)) some none (hI w 80 b).toNatClampNeg
def RBd (h w : AH) (ad : Nat → Nat) : Prop := ∀ b, b < nB w → hI w 51 b = 2 ∨ hI w 51 b = 5 → hI h (ad b + 4) 8 = hI w 80 b ∧ hI h (ad b + 4) 9 = letters_ w b ∧ hI h (ad b + 4) 10 = oI (told_ w b 4) ∧ hI h (ad b + 4) 11 = oI (told_ w b 5) ∧ ∀ i, i < 8 → nI i < hI w 80 b → hI h (ad b + 5) i = hI w 81 (8 * b + i) ∧ hI h (ad b + 6) i = hI w 82 (8 * b + i) ∧ (hI w 81 (8 * b + i) ≤ 2 → hI h (ad b + 7) i = hI w 83 (8 * b + i)) ∧ hI h (ad b + 8) i = hI w 84 (8 * b + i) ∧ hI h (ad b + 9) i = (if hI w 81 (8 * b + i) ≤ 2 then (if hI w 82 (8 * b + i) < hI w 83 (8 * b + i) then hI w 83 (8 * b + i) else hI w 82 (8 * b + i)) else hI w 82 (8 * b + i))
def RC (h w : AH) (P : Nat → Prog) (ad : Nat → Nat) : Prop := Lay h ∧ Rg h w ∧ Rm h w ∧ Rl h w ∧ Rr h w P ∧ Rt h w ∧ Rk h w ad ∧ Rs h w ad ∧ Ra h w ∧ RB h w ad ∧ RBd h w ad
theorem RC.l {h w : AH} {P : Nat → Prog} {ad : Nat → Nat} (R : RC h w P ad) : Lay h := R.1
theorem RC.g {h w : AH} {P : Nat → Prog} {ad : Nat → Nat} (R : RC h w P ad) : Rg h w := R.2.1
theorem RC.mm {h w : AH} {P : Nat → Prog} {ad : Nat → Nat} (R : RC h w P ad) : Rm h w := R.2.2.1
theorem RC.ll {h w : AH} {P : Nat → Prog} {ad : Nat → Nat} (R : RC h w P ad) : Rl h w := R.2.2.2.1
theorem RC.rr {h w : AH} {P : Nat → Prog} {ad : Nat → Nat} (R : RC h w P ad) : Rr h w P := R.2.2.2.2.1
theorem RC.tt {h w : AH} {P : Nat → Prog} {ad : Nat → Nat} (R : RC h w P ad) : Rt h w := R.2.2.2.2.2.1
theorem RC.kk {h w : AH} {P : Nat → Prog} {ad : Nat → Nat} (R : RC h w P ad) : Rk h w ad := R.2.2.2.2.2.2.1
theorem RC.ss {h w : AH} {P : Nat → Prog} {ad : Nat → Nat} (R : RC h w P ad) : Rs h w ad := R.2.2.2.2.2.2.2.1
theorem RC.aa {h w : AH} {P : Nat → Prog} {ad : Nat → Nat} (R : RC h w P ad) : Ra h w := R.2.2.2.2.2.2.2.2.1
theorem RC.B {h w : AH} {P : Nat → Prog} {ad : Nat → Nat} (R : RC h w P ad) : RB h w ad := R.2.2.2.2.2.2.2.2.2.1
theorem RC.dd {h w : AH} {P : Nat → Prog} {ad : Nat → Nat} (R : RC h w P ad) : RBd h w ad := R.2.2.2.2.2.2.2.2.2.2
theorem RC.td {h w : AH} {P : Nat → Prog} {ad : Nat → Nat} (R : RC h w P ad) : hI h 1 0 = hI w 49 1 := R.g.1
theorem RC.ow {h w : AH} {P : Nat → Prog} {ad : Nat → Nat} (R : RC h w P ad) {c : Nat} (hc : c < 60) : hI h 2 c = hI w 50 c - 1 := R.g.2.1 c hc
theorem RC.st {h w : AH} {P : Nat → Prog} {ad : Nat → Nat} (R : RC h w P ad) : hI h 1 5 = hI w 49 11 := R.g.2.2.1
theorem RC.i4 {h w : AH} {P : Nat → Prog} {ad : Nat → Nat} (R : RC h w P ad) : hI h 4 = hI w 58 := R.g.2.2.2
theorem RC.mv {h w : AH} {P : Nat → Prog} {ad : Nat → Nat} (R : RC h w P ad) : hI h 1 9 = hI w 49 13 := R.mm.1
theorem RC.i5 {h w : AH} {P : Nat → Prog} {ad : Nat → Nat} (R : RC h w P ad) : hI h 5 = hI w 59 := R.mm.2.1
theorem RC.i6 {h w : AH} {P : Nat → Prog} {ad : Nat → Nat} (R : RC h w P ad) : hI h 6 = hI w 61 := R.mm.2.2.1
theorem RC.i7 {h w : AH} {P : Nat → Prog} {ad : Nat → Nat} (R : RC h w P ad) : hI h 7 = hI w 60 := R.mm.2.2.2
theorem RC.lg {h w : AH} {P : Nat → Prog} {ad : Nat → Nat} (R : RC h w P ad) : hI h 21 2 = hI w 49 17 := R.ll.1
theorem RC.i22 {h w : AH} {P : Nat → Prog} {ad : Nat → Nat} (R : RC h w P ad) : hI h 22 = hI w 62 := R.ll.2.1
theorem RC.i23 {h w : AH} {P : Nat → Prog} {ad : Nat → Nat} (R : RC h w P ad) : hI h 23 = hI w 65 := R.ll.2.2.1
theorem RC.i25 {h w : AH} {P : Nat → Prog} {ad : Nat → Nat} (R : RC h w P ad) : hI h 25 = hI w 63 := R.ll.2.2.2.1
theorem RC.i26 {h w : AH} {P : Nat → Prog} {ad : Nat → Nat} (R : RC h w P ad) : hI h 26 = hI w 64 := R.ll.2.2.2.2
theorem RC.md {h w : AH} {P : Nat → Prog} {ad : Nat → Nat} (R : RC h w P ad) : hI h 8 1 = hI w 49 33 := R.rr.1
theorem RC.i15 {h w : AH} {P : Nat → Prog} {ad : Nat → Nat} (R : RC h w P ad) : hI h 15 = hI w 69 := R.rr.2.1
theorem RC.i16 {h w : AH} {P : Nat → Prog} {ad : Nat → Nat} (R : RC h w P ad) : hI h 16 = hI w 70 := R.rr.2.2.1
theorem RC.i17 {h w : AH} {P : Nat → Prog} {ad : Nat → Nat} (R : RC h w P ad) : hI h 17 = hI w 71 := R.rr.2.2.2.1
theorem RC.tp {h w : AH} {P : Nat → Prog} {ad : Nat → Nat} (R : RC h w P ad) : hI h 9 0 = hI w 49 25 := R.tt.1
theorem RC.wi {h w : AH} {P : Nat → Prog} {ad : Nat → Nat} (R : RC h w P ad) : hI h 28 0 = hI w 49 65 := R.kk.1
theorem RC.i31 {h w : AH} {P : Nat → Prog} {ad : Nat → Nat} (R : RC h w P ad) : hI h 31 = hI w 93 := R.kk.2.2.1
theorem RC.i32 {h w : AH} {P : Nat → Prog} {ad : Nat → Nat} (R : RC h w P ad) : hI h 32 = hI w 94 := R.kk.2.2.2.1
theorem RC.wh {h w : AH} {P : Nat → Prog} {ad : Nat → Nat} (R : RC h w P ad) : hI h 28 1 = hI w 49 76 := R.kk.2.2.2.2.1
theorem RC.wc {h w : AH} {P : Nat → Prog} {ad : Nat → Nat} (R : RC h w P ad) : hI h 28 2 = (if hI w 49 75 < 0 then 0 else hI w 49 75) := R.kk.2.2.2.2.2.1
theorem RC.i29 {h w : AH} {P : Nat → Prog} {ad : Nat → Nat} (R : RC h w P ad) : hI h 29 = hI w 97 := R.kk.2.2.2.2.2.2
theorem RC.tc {h w : AH} {P : Nat → Prog} {ad : Nat → Nat} (R : RC h w P ad) : hI h 48 24 = hI w 49 84 := R.aa.1
theorem RC.bn {h w : AH} {P : Nat → Prog} {ad : Nat → Nat} (R : RC h w P ad) : hI h 1 3 = hI w 49 3 := R.B.n
/-- what is at a body of the class stays, if only scratch changed -/
theorem RB.sd {h w h1 : AH} {ad : Nat → Nat} (B : RB h w ad) (s : Sd h h1) : RB h1 w ad := by
  have e : ∀ a k, 49 ≤ a → hI h1 a k = hI h a k := fun a k q => s.2.1 a k (fun z => absurd z (by omega))
  have r : ∀ a k, 49 ≤ a → hR h1 a k = hR h a k := fun a k q => s.2.2.2 a k (scR_big q k)
  have g : ∀ b, b < nB w → 49 ≤ ad b := fun b hb => ad_ge B.1 (by omega)
  refine ⟨⟨B.1.1, by rw [s.1]; exact B.1.2.1, by rw [s.2.1 1 3 (fun _ => rfl)]; exact B.1.2.2.1, fun b hb => ?_⟩, fun b hb hk => ?_, fun b hb hk => ?_, fun b hb hk => ?_, fun b hb hk => ?_⟩
  · have := g b hb
    have q := B.1.2.2.2 b hb
    refine ⟨q.1, by rw [s.2.2.2 3 b rfl]; exact q.2.1, by rw [e _ _ (by omega)]; exact q.2.2.1, by rw [e _ _ (by omega)]; exact q.2.2.2.1, by rw [s.1]; exact q.2.2.2.2.1, fun z => ?_, fun z => ?_, fun z => ?_⟩
    · rw [r _ _ (by omega), r _ _ (by omega)]; exact q.2.2.2.2.2.1 z
    · rw [r _ _ (by omega), r _ _ (by omega), r _ _ (by omega), r _ _ (by omega)]; exact q.2.2.2.2.2.2.1 z
    · rw [r _ _ (by omega), r _ _ (by omega), r _ _ (by omega), r _ _ (by omega), r _ _ (by omega), r _ _ (by omega)]; exact q.2.2.2.2.2.2.2 z
  · have := g b hb
    simp only [fun k => e (ad b) k this]
    exact B.2.1 b hb hk
  · have := g b hb
    simp only [fun k => e (ad b) k this]
    exact B.2.2.1 b hb hk
  · have := g b hb
    simp only [fun k => e (ad b + 1) k (by omega), fun k => e (ad b + 2) k (by omega), fun k => e (ad b + 3) k (by omega)]
    exact B.2.2.2.1 b hb hk
  · have := g b hb
    simp only [fun k => e (ad b) k this, fun k => e (ad b + 1) k (by omega), fun k => e (ad b + 2) k (by omega)]
    exact B.2.2.2.2 b hb hk
theorem RC.sd {h w h1 : AH} {P : Nat → Prog} {ad : Nat → Nat} (R : RC h w P ad) (s : Sd h h1) : RC h1 w P ad := by
  have f : ∀ a, (∀ k, a < 49 → swI a k = false) → hI h1 a = hI h a := fun a q => funext fun k => s.2.1 a k (q k)
  have c : ∀ a k, (a < 49 → swI a k = false) → hI h1 a k = hI h a k := s.2.1
  have e : ∀ a k, 49 ≤ a → hI h1 a k = hI h a k := fun a k q => s.2.1 a k (fun z => absurd z (by omega))
  obtain ⟨l, g, m, ll, r, t, k, ss, a, B, d⟩ := R
  refine ⟨l.sd s, ?_, ?_, ?_, ?_, ?_, ?_, ?_, ?_, B.sd s, ?_⟩
  · unfold Rg
    rw [c 1 0 (fun _ => rfl), c 1 5 (fun _ => rfl), f 2 (fun _ _ => rfl), f 4 (fun _ _ => rfl)]; exact g
  · unfold Rm
    rw [c 1 9 (fun _ => rfl), f 5 (fun _ _ => rfl), f 6 (fun _ _ => rfl), f 7 (fun _ _ => rfl)]; exact m
  · unfold Rl
    rw [c 21 2 (fun _ => rfl), f 22 (fun _ _ => rfl), f 23 (fun _ _ => rfl), f 25 (fun _ _ => rfl), f 26 (fun _ _ => rfl)]; exact ll
  · unfold Rr
    rw [c 8 1 (fun _ => rfl), f 15 (fun _ _ => rfl), f 16 (fun _ _ => rfl), f 17 (fun _ _ => rfl), f 18 (fun _ _ => rfl), f 19 (fun _ _ => rfl)]; exact r
  · unfold Rt
    rw [c 9 0 (fun _ => rfl), f 10 (fun _ _ => rfl)]; exact t
  · unfold Rk
    rw [c 28 0 (fun _ => rfl), c 28 1 (fun _ => rfl), c 28 2 (fun _ => rfl), f 31 (fun _ _ => rfl), f 32 (fun _ _ => rfl), f 29 (fun _ _ => rfl), show hR h1 30 = hR h 30 from funext fun k => s.2.2.2 30 k rfl]; exact k
  · intro i hi
    have q := ss i hi
    unfold shelfAt_ at q ⊢
    have z : ∀ k, hI h1 (36 + 2 * i) k = hI h (36 + 2 * i) k := fun k => by
      have : i = 0 ∨ i = 1 ∨ i = 2 ∨ i = 3 ∨ i = 4 ∨ i = 5 := by omega
      rcases this with rfl | rfl | rfl | rfl | rfl | rfl <;> exact c _ k (fun _ => rfl)
    rw [z, z, z, s.2.2.1, s.2.2.2 _ _ (by unfold scR; simp [show ¬ (36 + 2 * i = 8) by omega])]
    exact q
  · unfold Ra
    rw [f 48 (fun _ _ => rfl)]; exact a
  · intro b hb hk
    have := ad_ge B.1 (show b ≤ nB w by omega)
    simp only [fun k => e (ad b + 4) k (by omega), fun k => e (ad b + 5) k (by omega), fun k => e (ad b + 6) k (by omega), fun k => e (ad b + 7) k (by omega), fun k => e (ad b + 8) k (by omega), fun k => e (ad b + 9) k (by omega)]
    exact d b hb hk
theorem RC.sc {h w h1 : AH} {P : Nat → Prog} {ad : Nat → Nat} (R : RC h w P ad) (s : Sc h h1) : RC h1 w P ad := R.sd s.sd
