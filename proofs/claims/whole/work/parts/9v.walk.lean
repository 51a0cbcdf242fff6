/-! A WALK: what both look for -/
def adf (a b : Nat) : Nat := if a ≤ b then b - a else a - b
def hbN (x y : Nat) : Nat := (adf (x / 10) (y / 10) + adf (x % 10) (y % 10) + 1) / 2
theorem hbN_le : ∀ x : Nat, x < 60 → ∀ y : Nat, y < 60 → hbN x y ≤ 7 := by decide +kernel
theorem far_hb : ∀ x : Nat, x < 60 → ∀ y : Nat, y < 60 → (far_ (nI x) (nI y) + 1) / 2 = nI (hbN x y) := by decide +kernel
abbrev Bst : Type := Nat × Nat × List Nat
def dayB (x : Nat) : Bool := Nat.ble 6 (x % 24) && Nat.ble (x % 24) 19
/-- what is told: how many, the cells, whether by night, worths, hours; home, the hour of setting out, the limit -/
abbrev Told : Type := Nat × (Nat → Nat) × (Nat → Bool) × (Nat → Nat) × (Nat → Nat) × Nat × Nat × Nat
def tW (T : Told) : Nat := T.1
def tC (T : Told) : Nat → Nat := T.2.1
def tN (T : Told) : Nat → Bool := T.2.2.1
def tV (T : Told) : Nat → Nat := T.2.2.2.1
def tH (T : Told) : Nat → Nat := T.2.2.2.2.1
def tHome (T : Told) : Nat := T.2.2.2.2.2.1
def tS0 (T : Told) : Nat := T.2.2.2.2.2.2.1
def tL (T : Told) : Nat := T.2.2.2.2.2.2.2
def begN (T : Told) (i ce t : Nat) : Nat := if tN T i = true ∧ dayB (tS0 T + (t + hbN ce (tC T i))) = true then t + hbN ce (tC T i) + (20 - (tS0 T + (t + hbN ce (tC T i))) % 24) else t + hbN ce (tC T i)
def doneN (T : Told) (i ce t : Nat) : Nat := begN T i ce t + tH T i
def cmpB (T : Told) (row : List Nat) (v a : Nat) (B : Bst) : Bst := if a ≤ tL T ∧ (B.1 < v ∨ B.1 = v ∧ a < B.2.1) then (v, a, row) else B
def wOn (T : Told) : Nat → List Nat → Nat → Nat → Nat → Nat → Bst → Bst
  | 0, _, _, _, _, _, B => B
  | f + 1, row, u, ce, t, v, B => if tL T < t then B else foldN (fun i B => if u.testBit i = true then B else wOn T f (row ++ [i]) (u ||| 2 ^ i) (tC T i) (doneN T i ce t) (v + tV T i) (cmpB T (row ++ [i]) (v + tV T i) (doneN T i ce t + hbN (tC T i) (tHome T)) B)) B (tW T)
theorem wOn_s (T : Told) (f : Nat) (row : List Nat) (u ce t v : Nat) (B : Bst) : wOn T (f + 1) row u ce t v B = if tL T < t then B else foldN (fun i B => if u.testBit i = true then B else wOn T f (row ++ [i]) (u ||| 2 ^ i) (tC T i) (doneN T i ce t) (v + tV T i) (cmpB T (row ++ [i]) (v + tV T i) (doneN T i ce t + hbN (tC T i) (tHome T)) B)) B (tW T) := rfl
/-- what is so of what is told -/
def okT' (T : Told) : Prop := tW T ≤ 7 ∧ tHome T < 60 ∧ tS0 T < 24 ∧ tL T ≤ 48 ∧ ∀ i, i < tW T → tC T i < 60 ∧ 1 ≤ tV T i ∧ tV T i ≤ 99 ∧ tH T i ≤ 9
theorem doneN_le {T : Told} (o : okT' T) {i ce t : Nat} (hi : i < tW T) (hc : ce < 60) (ht : t ≤ 48) : doneN T i ce t ≤ 100 := by
  obtain ⟨-, -, -, -, q⟩ := o
  have h7 := hbN_le ce hc (tC T i) (q i hi).1
  have h9 := (q i hi).2.2.2
  unfold doneN begN
  split <;> omega
/-- how many of 7 bits are set -/
def pc7 (u : Nat) : Nat := cnt (fun i => u.testBit i) 7
theorem pc7_le (u : Nat) : pc7 u ≤ 7 := cnt_le _ _
theorem pc7_s : ∀ u : Nat, u < 128 → ∀ i : Nat, i < 7 → u.testBit i = false → pc7 (u ||| 2 ^ i) = pc7 u + 1 ∧ (u ||| 2 ^ i) < 128 := by decide +kernel
theorem bit_t : ∀ u : Nat, u < 128 → ∀ i : Nat, i < 7 → ((nI u >>> (nI i &&& 31)) &&& 1) = (if u.testBit i = true then 1 else 0) := by decide +kernel
theorem bit_o : ∀ u : Nat, u < 128 → ∀ i : Nat, i < 7 → nI u ||| ((1 : Int32) <<< (nI i &&& 31)) = nI (u ||| 2 ^ i) := by decide +kernel
/-- the best so far: none, or a row of places told -/
def okBst (T : Told) (B : Bst) : Prop := (B = (0, 0, [])) ∨ (1 ≤ B.1 ∧ B.1 ≤ 700 ∧ B.2.1 ≤ 48 ∧ 1 ≤ B.2.2.length ∧ B.2.2.length ≤ 7 ∧ ∀ i ∈ B.2.2, i < tW T)
theorem cmpB_ok {T : Told} (o : okT' T) {row : List Nat} {v a : Nat} {B : Bst} (hB : okBst T B) (h1 : 1 ≤ v) (h2 : v ≤ 700) (h3 : 1 ≤ row.length) (h4 : row.length ≤ 7) (h5 : ∀ i ∈ row, i < tW T) : okBst T (cmpB T row v a B) := by
  unfold cmpB
  split
  · rename_i z
    exact Or.inr ⟨h1, h2, Nat.le_trans z.1 o.2.2.2.1, h3, h4, h5⟩
  · exact hB
theorem cellN {c : Int32} (h : cellOk c) : ∃ x : Nat, x < 60 ∧ c = nI x := nI_in0 (n := 60) h.1 (by omega) h.2
/-- the wishes of the world, a ce and an hour to set out, and so many hours -/
def told_w (w : AH) (home s l : Nat) : Told := (nW w, fun i => (liesNow_ w (hI w 92 i).toNatClampNeg).toNatClampNeg, fun i => decide (hI w 51 ((hI w 92 i).toNatClampNeg) = 5), fun i => (hI w 93 i).toNatClampNeg, fun i => (hI w 94 i).toNatClampNeg, home, s, l)
/-- wishes: boxes told, worths 1 .. 99, hours 0 .. 9 -/
def WWo (w : AH) : Prop := ∀ i, i < nW w → (∃ b, b < nB w ∧ hI w 92 i = nI b ∧ boxK (hI w 51 b) = true) ∧ (∃ x, 1 ≤ x ∧ x ≤ 99 ∧ hI w 93 i = nI x) ∧ ∃ x, x ≤ 9 ∧ hI w 94 i = nI x
theorem WWo.i {w : AH} (X : WWo w) : WWi w := fun i hi => (X i hi).1
theorem told_ok {w : AH} (n : WN w) (W : WB w) (M : WM w) (X : WWo w) {home s l : Nat} (h1 : home < 60) (h2 : s < 24) (h3 : l ≤ 48) : okT' (told_w w home s l) := by
  have hn := n.n150
  refine ⟨n.w7, h1, h2, h3, fun i hi => ?_⟩
  obtain ⟨⟨b, b1, b2, b3⟩, ⟨x, x1, x2, x3⟩, ⟨y, y1, y2⟩⟩ := X i hi
  have cb : (nI b).toNatClampNeg = b := nI_clamp (by omega)
  have co := liesNow_ok n W M b1 b3
  refine ⟨?_, ?_, ?_, ?_⟩
  · show (liesNow_ w (hI w 92 i).toNatClampNeg).toNatClampNeg < 60
    rw [b2, cb]
    obtain ⟨z, z1, z2⟩ := cellN co
    rw [z2, nI_clamp (by omega)]; exact z1
  · show 1 ≤ (hI w 93 i).toNatClampNeg
    rw [x3, nI_clamp (by omega)]; exact x1
  · show (hI w 93 i).toNatClampNeg ≤ 99
    rw [x3, nI_clamp (by omega)]; exact x2
  · show (hI w 94 i).toNatClampNeg ≤ 9
    rw [y2, nI_clamp (by omega)]; exact y1
