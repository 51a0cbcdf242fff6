/-! rule: the reference's next token -/
/-- nothing changed but the token that is read -/
def Sn (h h' : AH) : Prop := hS h' = hS h ∧ hL h' = hL h ∧ hR h' = hR h ∧ (∀ a, a ≠ 49 → hI h' a = hI h a) ∧ ∀ k, k < 26 ∨ 29 < k → hI h' 49 k = hI h 49 k
theorem Sn.refl (h : AH) : Sn h h := ⟨rfl, rfl, rfl, fun _ _ => rfl, fun _ _ => rfl⟩
theorem Sn.w {h h1 : AH} (s : Sn h h1) {k : Nat} (q1 : 26 ≤ k) (q2 : k ≤ 29) (v : Int32) : Sn h (wI h1 49 k v) := ⟨s.1, s.2.1, s.2.2.1, fun a ha => by rw [q_ne ha]; exact s.2.2.2.1 a ha, fun j hj => by rw [q_II, if_neg (by omega)]; exact s.2.2.2.2 j hj⟩
theorem Sn.trans {h h1 h2 : AH} (s : Sn h h1) (t : Sn h1 h2) : Sn h h2 := ⟨t.1.trans s.1, t.2.1.trans s.2.1, t.2.2.1.trans s.2.2.1, fun a ha => (t.2.2.2.1 a ha).trans (s.2.2.2.1 a ha), fun j hj => (t.2.2.2.2 j hj).trans (s.2.2.2.2 j hj)⟩
def kdB (w : AH) (b : Nat) : Int32 := if b < lenT w then (if isLet (byN w b) = true then 1 else if isDig (byN w b) = true then (if runTo (digQ w) 160 b ≤ b + 5 then 2 else -1) else if signB (byN w b) = true then nI (byN w b) else -1) else 0
