/-! the call paper -/
theorem RB.papN {h w : AH} {ad : Nat → Nat} (B : RB h w ad) {b0 : Nat} (hb0 : b0 < nB w) (hk0 : boxK (hI w 51 b0) = true) {k0 : Nat} (hk : k0 = 15 ∨ k0 = 16) (v n : Int32) (p : ∀ i, i < 40 → nI i < n → hI h (ad b0 + 2) i = hI w 67 (40 * b0 + i)) (e : (if n < 0 then 0 else n) = if k0 = 15 then v else (if hI w 66 b0 < 0 then 0 else hI w 66 b0)) (e2 : (if n < 0 then 0 else 1) = if k0 = 16 then v else (if hI w 66 b0 < 0 then (0 : Int32) else 1)) : RB (wI h (ad b0) k0 v) (wI w 66 b0 n) ad := by
  refine B.setx hb0 hk0 (by omega) v rfl rfl B.2.1 (fun b hb hkb => ?_) B.2.2.2.2 ?_
  · have this := B.2.2.2.1 b hb hkb
    refine ⟨this.1, fun i h1 h2 => ?_, this.2.2⟩
    have h2 : nI i < hI (wI w 66 b0 n) 66 b := h2
    rw [q_II] at h2
    by_cases y : b = b0
    · subst y
      rw [if_pos ⟨rfl, rfl⟩] at h2
      exact p i h1 h2
    · rw [if_neg (fun x => y x.2)] at h2
      exact this.2.1 i h1 h2
  · intro b hb hkb k hkk
    by_cases z : k = 15 ∨ k = 16
    · have e15 : ∀ w, bx w b 15 = if hI w 66 b < 0 then 0 else hI w 66 b := fun _ => rfl
      have e16 : ∀ w, bx w b 16 = if hI w 66 b < 0 then 0 else 1 := fun _ => rfl
      by_cases y : b = b0
      · subst y
        have ew : hI (wI w 66 b n) 66 b = n := q_at
        rcases z with rfl | rfl
        · rw [e15, ew, e, e15]
          by_cases q : k0 = 15
          · rw [if_pos q, if_pos ⟨rfl, q.symm⟩]
          · have q2 : ¬ (b = b ∧ 15 = k0) := fun x => q x.2.symm
            rw [if_neg q, if_neg q2]
        · rw [e16, ew, e2, e16]
          by_cases q : k0 = 16
          · rw [if_pos q, if_pos ⟨rfl, q.symm⟩]
          · have q2 : ¬ (b = b ∧ 16 = k0) := fun x => q x.2.symm
            rw [if_neg q, if_neg q2]
      · have ew : hI (wI w 66 b0 n) 66 b = hI w 66 b := by rw [q_II, if_neg (fun x => y x.2)]
        rw [if_neg (fun x => y x.1)]
        rcases z with rfl | rfl
        · rw [e15, ew, e15]
        · rw [e16, ew, e16]
    · have z15 : k ≠ 15 := fun x => z (Or.inl x)
      have z16 : k ≠ 16 := fun x => z (Or.inr x)
      have zk : ¬ (b = b0 ∧ k = k0) := fun x => z (by rw [x.2]; exact hk)
      rw [if_neg zk]
      have : k = 2 ∨ k = 3 ∨ k = 8 ∨ k = 9 ∨ k = 10 ∨ k = 11 ∨ k = 12 ∨ k = 13 ∨ k = 14 ∨ k = 17 ∨ k = 18 := by
        unfold bxk at hkk
        simp at hkk
        clear e e2 p hk z zk
        omega
      rcases this with rfl | rfl | rfl | rfl | rfl | rfl | rfl | rfl | rfl | rfl | rfl
      · show hI (wI w 66 b0 n) 53 b = hI w 53 b; rfl
      · show hI (wI w 66 b0 n) 52 b = hI w 52 b; rfl
      · show hI (wI w 66 b0 n) 55 b = hI w 55 b; rfl
      · show cellNow_ (wI w 66 b0 n) b = cellNow_ w b; rfl
      · show hI (wI w 66 b0 n) 56 b = hI w 56 b; rfl
      · show hI (wI w 66 b0 n) 54 b = hI w 54 b; rfl
      · show nI (finds_ (wI w 66 b0 n) b) = nI (finds_ w b); rfl
      · show nI (misses_ (wI w 66 b0 n) b) = nI (misses_ w b); rfl
      · show oI (latest_ (wI w 66 b0 n) b) = oI (latest_ w b); rfl
      · show hI (wI w 66 b0 n) 89 b = hI w 89 b; rfl
      · show hI (wI w 66 b0 n) 98 b - 1 = hI w 98 b - 1; rfl
