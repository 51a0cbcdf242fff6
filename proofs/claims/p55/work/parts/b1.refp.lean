/-! rule: the reference's parser: its state, its small steps -/
def Se (N : Nat) (h h' : AH) : Prop := hS h' = hS h ∧ hL h' = hL h ∧ hR h' = hR h ∧ (∀ a, a ≠ 49 → a ≠ 76 → a ≠ 77 → hI h' a = hI h a) ∧ (∀ k, k < 26 ∨ 32 < k → hI h' 49 k = hI h 49 k) ∧ ∀ k, k < 170 * N → hI h' 76 k = hI h 76 k ∧ hI h' 77 k = hI h 77 k
theorem Se.refl (N : Nat) (h : AH) : Se N h h := ⟨rfl, rfl, rfl, fun _ _ _ _ => rfl, fun _ _ => rfl, fun _ _ => ⟨rfl, rfl⟩⟩
theorem Se.trans {N : Nat} {h h1 h2 : AH} (s : Se N h h1) (t : Se N h1 h2) : Se N h h2 := ⟨t.1.trans s.1, t.2.1.trans s.2.1, t.2.2.1.trans s.2.2.1, fun a x y z => (t.2.2.2.1 a x y z).trans (s.2.2.2.1 a x y z), fun k hk => (t.2.2.2.2.1 k hk).trans (s.2.2.2.2.1 k hk), fun k hk => ⟨(t.2.2.2.2.2 k hk).1.trans (s.2.2.2.2.2 k hk).1, (t.2.2.2.2.2 k hk).2.trans (s.2.2.2.2.2 k hk).2⟩⟩
theorem Se.w {N : Nat} {h0 hh : AH} (Q : Se N h0 hh) {k : Nat} (h1 : 26 ≤ k) (h2 : k ≤ 32) (v : Int32) : Se N h0 (wI hh 49 k v) := ⟨Q.1, Q.2.1, Q.2.2.1, fun a x y z => by rw [q_ne x]; exact Q.2.2.2.1 a x y z, fun j hj => by rw [q_II, if_neg (by omega)]; exact Q.2.2.2.2.1 j hj, fun j hj => by rw [q_ne (by decide), q_ne (by decide)]; exact Q.2.2.2.2.2 j hj⟩
theorem Se.c {N : Nat} {h0 hh : AH} (Q : Se N h0 hh) {k : Nat} (hk : 170 * N ≤ k) (v x : Int32) : Se N h0 (wI (wI hh 76 k v) 77 k x) := ⟨Q.1, Q.2.1, Q.2.2.1, fun a x y z => by rw [q_ne z, q_ne y]; exact Q.2.2.2.1 a x y z, fun j hj => by rw [q_ne (by decide), q_ne (by decide)]; exact Q.2.2.2.2.1 j hj, fun j hj => ⟨by rw [q_ne (by decide), q_atne (by omega)]; exact (Q.2.2.2.2.2 j hj).1, by rw [q_atne (by omega), q_ne (by decide)]; exact (Q.2.2.2.2.2 j hj).2⟩⟩
/-- the token i is read -/
def TkF (w hh : AH) (i : Nat) : Prop := hI hh 49 26 = nI (plc w i) ∧ hI hh 49 27 = nI (pos w (i + 1)) ∧ hI hh 49 28 = kdB w (plc w i) ∧ (tokS w i = 2 → hI hh 49 29 = tkVal w (plc w i))
def RsT (w h0 hh : AH) (m r : Nat) (z : Int) (s : Prs) : Prop := Se (nT w) h0 hh ∧ match s with
  | .error p => p ≤ m ∧ hI hh 49 30 = nI (plc w p) ∧ ∃ n : Nat, hI hh 49 32 = nI n ∧ (n : Int) + z ≤ p + 1
  | .ok (i, c) => i ≤ m ∧ (c.length : Int) + z ≤ i + 1 ∧ hI hh 49 30 = -1 ∧ hI hh 49 31 = nI (6 - r) ∧ hI hh 49 32 = nI c.length ∧ TkF w hh i ∧ ∀ k, k < c.length → hI hh 76 (170 * nT w + k) = actI (c.getD k (0, 0)) ∧ hI hh 77 (170 * nT w + k) = withI (c.getD k (0, 0))
theorem RsT.z {w h0 hh : AH} {m r : Nat} {z y : Int} {s : Prs} (C : RsT w h0 hh m r z s) (h : y ≤ z) : RsT w h0 hh m r y s := by
  cases s with
  | error p =>
    obtain ⟨Q, hp, e, n, e2, hn⟩ := C
    exact ⟨Q, hp, e, n, e2, by omega⟩
  | ok x => exact ⟨C.1, C.2.1, by have := C.2.2.1; omega, C.2.2.2⟩
theorem RsT.fr {w h0 h1 hh : AH} {m r : Nat} {z : Int} {s : Prs} (S : Se (nT w) h0 h1) (C : RsT w h1 hh m r z s) : RsT w h0 hh m r z s := ⟨S.trans C.1, C.2⟩
section
variable {h0 w : AH} {m : Nat}
/-- the end of the tape's tokens -/
def TkM (w : AH) (m : Nat) : Prop := m ≤ 160 ∧ plc w m = lenT w
theorem TkM.lt (T : TkM w m) {i : Nat} (hi : i ≤ m) (h : tokS w i ≠ 0) : i < m := by
  by_cases c : i = m
  · rw [c, tS_end T.2] at h; exact absurd rfl h
  · omega
/-- a sign, or a number's kind -/
theorem RsT.k {hh : AH} (F : WF1 w) (Y : WBy w) {r : Nat} {z : Int} {i : Nat} {c : List Ins} (C : RsT w h0 hh m r z (.ok (i, c))) {x : Nat} (hx : x = 0 ∨ x = 2 ∨ signB x = true) {t : Int32} (et : nI x = t) : (hI hh 49 28 = t) = (tokS w i = t) := by
  rw [C.2.2.2.2.2.2.1.2.2.1, ← et]
  exact kd_sign F Y (pos_le i).2 hx
end
