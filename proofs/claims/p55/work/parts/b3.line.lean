/-! rule: the reference's lines -/
def SeL (N : Nat) (h h' : AH) : Prop := hS h' = hS h ∧ hL h' = hL h ∧ hR h' = hR h ∧ (∀ a, a ≠ 49 → a < 72 ∨ 77 < a → hI h' a = hI h a) ∧ (∀ k, k < 26 ∨ 32 < k → hI h' 49 k = hI h 49 k) ∧ (∀ k, k < N → hI h' 72 k = hI h 72 k) ∧ (∀ k, k < 81 * N → hI h' 73 k = hI h 73 k ∧ hI h' 74 k = hI h 74 k ∧ hI h' 75 k = hI h 75 k) ∧ ∀ k, k < 170 * N → hI h' 76 k = hI h 76 k ∧ hI h' 77 k = hI h 77 k
theorem SeL.refl (N : Nat) (h : AH) : SeL N h h := ⟨rfl, rfl, rfl, fun _ _ _ => rfl, fun _ _ => rfl, fun _ _ => rfl, fun _ _ => ⟨rfl, rfl, rfl⟩, fun _ _ => ⟨rfl, rfl⟩⟩
theorem SeL.trans {N : Nat} {h h1 h2 : AH} (s : SeL N h h1) (t : SeL N h1 h2) : SeL N h h2 := by
  obtain ⟨a1, a2, a3, a4, a5, a6, a7, a8⟩ := s
  obtain ⟨b1, b2, b3, b4, b5, b6, b7, b8⟩ := t
  exact ⟨b1.trans a1, b2.trans a2, b3.trans a3, fun a x y => (b4 a x y).trans (a4 a x y), fun k hk => (b5 k hk).trans (a5 k hk), fun k hk => (b6 k hk).trans (a6 k hk), fun k hk => ⟨(b7 k hk).1.trans (a7 k hk).1, (b7 k hk).2.1.trans (a7 k hk).2.1, (b7 k hk).2.2.trans (a7 k hk).2.2⟩, fun k hk => ⟨(b8 k hk).1.trans (a8 k hk).1, (b8 k hk).2.trans (a8 k hk).2⟩⟩
theorem Se.l {N : Nat} {h h' : AH} (s : Se N h h') : SeL N h h' := ⟨s.1, s.2.1, s.2.2.1, fun a x y => s.2.2.2.1 a x (by omega) (by omega), s.2.2.2.2.1, fun k _ => by rw [s.2.2.2.1 72 (by omega) (by omega) (by omega)], fun k _ => ⟨by rw [s.2.2.2.1 73 (by omega) (by omega) (by omega)], by rw [s.2.2.2.1 74 (by omega) (by omega) (by omega)], by rw [s.2.2.2.1 75 (by omega) (by omega) (by omega)]⟩, s.2.2.2.2.2⟩
theorem SeL.w {N : Nat} {h h' : AH} (s : SeL N h h') {a k : Nat} (hk : a = 72 ∧ k = N ∨ (a = 73 ∨ a = 74 ∨ a = 75) ∧ 81 * N ≤ k) (v : Int32) : SeL N h (wI h' a k v) := by
  obtain ⟨a1, a2, a3, a4, a5, a6, a7, a8⟩ := s
  have f : ∀ b j, (b ≠ a ∨ j ≠ k) → hI (wI h' a k v) b j = hI h' b j := fun b j hb => by rw [q_II, if_neg (by omega)]
  refine ⟨a1, a2, a3, fun b x y => ?_, fun j hj => ?_, fun j hj => ?_, fun j hj => ?_, fun j hj => ?_⟩
  · rw [q_ne (by omega)]; exact a4 b x y
  · rw [f _ _ (by omega)]; exact a5 j hj
  · rw [f _ _ (by omega)]; exact a6 j hj
  · rw [f _ _ (by omega), f _ _ (by omega), f _ _ (by omega)]; exact a7 j hj
  · rw [f _ _ (by omega), f _ _ (by omega)]; exact a8 j hj
theorem RsT.o {w h0 hh : AH} {m r : Nat} {z : Int} {s : Prs} (C : RsT w h0 hh m r z s) {a : Nat} (h1 : 72 ≤ a) (h2 : a ≤ 75) (k : Nat) (v : Int32) : RsT w (wI hh a k v) (wI hh a k v) m r z s := by
  refine ⟨Se.refl _ _, ?_⟩
  have C := C.2
  have f49 : hI (wI hh a k v) 49 = hI hh 49 := q_ne (by omega)
  have f76 : hI (wI hh a k v) 76 = hI hh 76 := q_ne (by omega)
  have f77 : hI (wI hh a k v) 77 = hI hh 77 := q_ne (by omega)
  cases s with
  | error p => simp only [f49]; exact C
  | ok x => simp only [f49, f76, f77, TkF]; exact C
/-- the lines that stand in the rows -/
def RoL (w hh : AH) (q : Prog) : Prop := hI hh 72 (nT w) = nI q.length ∧ ∀ l, l < q.length → hI hh 73 (81 * nT w + l) = nI (q.getD l (0, [], [])).1 ∧ hI hh 74 (81 * nT w + l) = nI (offP q l + (q.getD l (0, [], [])).2.1.length) ∧ hI hh 75 (81 * nT w + l) = nI (offP q (l + 1))
theorem RoL.o {w h : AH} {q : Prog} (r : RoL w h q) {a : Nat} (ha : a = 73 ∨ a = 74 ∨ a = 75) {k : Nat} (hk : 81 * nT w + q.length ≤ k) (v : Int32) : RoL w (wI h a k v) q := by
  have f : ∀ b j, (b ≠ a ∨ j ≠ k) → hI (wI h a k v) b j = hI h b j := fun b j hb => by rw [q_II, if_neg (by omega)]
  refine ⟨by rw [f _ _ (by omega)]; exact r.1, fun l hl => ?_⟩
  rw [f _ _ (by omega), f _ _ (by omega), f _ _ (by omega)]
  exact r.2 l hl
section
variable {h0 w : AH} {m : Nat}
end
