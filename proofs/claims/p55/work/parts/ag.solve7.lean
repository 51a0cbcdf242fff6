/-! solve: the class's riddle -/
def Cx (o : Nat) (h h' : AH) : Prop := hS h' = hS h ∧ hR h' = hR h ∧ (∀ a k, ¬ ((a = o ∧ (k = 0 ∨ k = 1 ∨ k = 13 ∨ k = 14)) ∨ a = o + 6) → hI h' a k = hI h a k) ∧ (∀ a k, ¬ (a = o ∧ k = 2) → hL h' a k = hL h a k)
theorem Cx.refl (o : Nat) (h : AH) : Cx o h h := ⟨rfl, rfl, fun _ _ _ => rfl, fun _ _ _ => rfl⟩
theorem Cx.trans {o : Nat} {h h1 h2 : AH} (a : Cx o h h1) (b : Cx o h1 h2) : Cx o h h2 := ⟨b.1.trans a.1, b.2.1.trans a.2.1, fun x k e => (b.2.2.1 x k e).trans (a.2.2.1 x k e), fun x k e => (b.2.2.2 x k e).trans (a.2.2.2 x k e)⟩
theorem Cx.wI {o : Nat} {h h1 : AH} (s : Cx o h h1) (a k : Nat) (v : Int32) (e : (a = o ∧ (k = 0 ∨ k = 1 ∨ k = 13 ∨ k = 14)) ∨ a = o + 6) : Cx o h (wI h1 a k v) := by
  refine ⟨s.1, s.2.1, fun x j z => ?_, s.2.2.2⟩
  rw [q_II, if_neg, s.2.2.1 x j z]
  rintro ⟨rfl, rfl⟩
  exact z e
theorem RB.s10 {h w : AH} {ad : Nat → Nat} (B : RB h w ad) {b : Nat} (hb : b < nB w) (hk : hI w 51 b = 2 ∨ hI w 51 b = 5) : (hS h)[ad b + 10]? = some (20, 6) := by
  have bb := blkR hk
  rw [(B.1.2.2.2 b hb).2.2.2.2.1 10 (by omega)]
  rcases hk with e | e <;> rw [e] <;> decide
