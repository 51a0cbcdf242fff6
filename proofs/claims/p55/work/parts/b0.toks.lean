/-! rule: the reference's tokens are the class's -/
def kwK (k : Nat) : Int64 := Int64.ofNat (wdK.getD k 0)
theorem runTo_q {q : Nat → Bool} : ∀ (f p i : Nat), p ≤ i → i < runTo q f p → q i = true := by
  intro f
  induction f with
  | zero => intro p i h1 h2; exact absurd h2 (by show ¬ i < p; omega)
  | succ f ih =>
    intro p i h1 h2
    have h2 : i < (if q p = true then runTo q f (p + 1) else p) := h2
    by_cases c : q p = true
    · rw [if_pos c] at h2
      by_cases z : i = p
      · rw [z]; exact c
      · exact ih (p + 1) i (by omega) h2
    · rw [if_neg c] at h2; omega
theorem wTok_k : ∀ k : Nat, k < 16 → wTok (nI k) = if k < 11 then 3 else nI (300 + k) := by decide +kernel
/-- what a token is for both -/
theorem tok_cases {w : AH} (F : WF1 w) (Y : WBy w) {b : Nat} (hb : b ≤ lenT w) :
    (∃ k, k < 16 ∧ kdB w b = 1 ∧ (∀ l, l < 16 → isW w b (tkEnd w b) 1 (kwK l) = decide (l = k)) ∧ tkSort w b = (if k < 11 then 3 else nI (300 + k)) ∧ tkVal w b = -1 - nI k)
    ∨ (kdB w b = 1 ∧ (∀ l, l < 16 → isW w b (tkEnd w b) 1 (kwK l) = false) ∧ tkSort w b = 1)
    ∨ (kdB w b = 2 ∧ tkSort w b = 2 ∧ b < lenT w ∧ isLet (byN w b) = false ∧ isDig (byN w b) = true)
    ∨ (kdB w b = -1 ∧ tkSort w b = 1)
    ∨ (∃ c, signB c = true ∧ kdB w b = nI c ∧ tkSort w b = nI c)
    ∨ (kdB w b = 0 ∧ tkSort w b = 0) := by
  have lt := (lenT_eq F).1
  by_cases c : b < lenT w
  · by_cases L : isLet (byN w b) = true
    · have eK : kdB w b = 1 := by unfold kdB; rw [if_pos c, if_pos L]
      have eE : tkEnd w b = runTo (letQ w) 160 b := by unfold tkEnd; rw [if_pos c, if_pos L]
      have eS : tkSort w b = wTok (wordNo w b (runTo (letQ w) 160 b - b)) := by unfold tkSort; rw [if_pos c, if_pos L]
      have eV : tkVal w b = -1 - wordNo w b (runTo (letQ w) 160 b - b) := by unfold tkVal; rw [if_pos L]
      have ge : b ≤ runTo (letQ w) 160 b := runTo_ge _ _
      have le : runTo (letQ w) 160 b ≤ lenT w := runTo_lt let_lt _ _ hb
      obtain ⟨n, hn⟩ : ∃ n, runTo (letQ w) 160 b = b + n := ⟨runTo (letQ w) 160 b - b, by omega⟩
      have hl : ∀ i, i < n → 97 ≤ byN w (b + i) ∧ byN w (b + i) ≤ 122 := by
        intro i hi
        have := runTo_q 160 b (b + i) (by omega) (by rw [hn]; omega)
        unfold letQ at this
        have := (Bool.and_eq_true_iff.mp this).2
        unfold isLet at this
        exact of_decide_eq_true this
      have h256 : ∀ i, i < n → byN w (b + i) < 256 := fun i hi => by have := hl i hi; omega
      have iw : ∀ l, l < 16 → isW w b (tkEnd w b) 1 (kwK l) = decide (Lw w b n = wd l) := fun l hl' => by rw [eE, hn]; exact isW_iff Y (by omega) hl hl'
      have e0 : b + n - b = n := by omega
      rw [hn, e0] at eS eV
      by_cases q : ∃ k, k < 16 ∧ Lw w b n = wd k
      · obtain ⟨k, hk, e⟩ := q
        refine Or.inl ⟨k, hk, eK, fun l hl' => ?_, ?_, ?_⟩
        · rw [iw l hl', e]
          by_cases z : l = k
          · rw [z, decide_eq_true rfl, decide_eq_true rfl]
          · rw [decide_eq_false (fun q => z (wd_ne k hk l hl' q).symm), decide_eq_false z]
        · rw [eS, wordNo_at h256 hk e, wTok_k k hk]
        · rw [eV, wordNo_at h256 hk e]
      · have no : ∀ k, k < 16 → Lw w b n ≠ wd k := fun k hk e => q ⟨k, hk, e⟩
        refine Or.inr (Or.inl ⟨eK, fun l hl' => by rw [iw l hl', decide_eq_false (no l hl')], ?_⟩)
        rw [eS, wordNo_no h256 no]; decide
    · by_cases D : isDig (byN w b) = true
      · have eK : kdB w b = if runTo (digQ w) 160 b ≤ b + 5 then 2 else -1 := by unfold kdB; rw [if_pos c, if_neg L, if_pos D]
        have eS : tkSort w b = if runTo (digQ w) 160 b ≤ b + 5 then 2 else 1 := by unfold tkSort; rw [if_pos c, if_neg L, if_pos D]
        by_cases q : runTo (digQ w) 160 b ≤ b + 5
        · rw [if_pos q] at eK eS
          exact Or.inr (Or.inr (Or.inl ⟨eK, eS, c, Bool.eq_false_iff.mpr L, D⟩))
        · rw [if_neg q] at eK eS
          exact Or.inr (Or.inr (Or.inr (Or.inl ⟨eK, eS⟩)))
      · have eK : kdB w b = if signB (byN w b) = true then nI (byN w b) else -1 := by unfold kdB; rw [if_pos c, if_neg L, if_neg D]
        have eS : tkSort w b = if signB (byN w b) = true then nI (byN w b) else 1 := by unfold tkSort; rw [if_pos c, if_neg L, if_neg D]
        by_cases q : signB (byN w b) = true
        · rw [if_pos q] at eK eS
          exact Or.inr (Or.inr (Or.inr (Or.inr (Or.inl ⟨_, q, eK, eS⟩))))
        · rw [if_neg q] at eK eS
          exact Or.inr (Or.inr (Or.inr (Or.inl ⟨eK, eS⟩)))
  · have eK : kdB w b = 0 := by unfold kdB; rw [if_neg c]
    have eS : tkSort w b = 0 := by unfold tkSort; rw [if_neg c]
    exact Or.inr (Or.inr (Or.inr (Or.inr (Or.inr ⟨eK, eS⟩))))
theorem signB_iff {b : Nat} : signB b = true ↔ (b = 59 ∨ b = 58 ∨ b = 60 ∨ b = 62 ∨ b = 61 ∨ b = 43 ∨ b = 45 ∨ b = 42 ∨ b = 47 ∨ b = 37 ∨ b = 40 ∨ b = 41) := by
  unfold signB
  simp
/-- a sign's byte, a number, the end -/
theorem kd_sign {w : AH} (F : WF1 w) (Y : WBy w) {b : Nat} (hb : b ≤ lenT w) {c : Nat} (hc : c = 0 ∨ c = 2 ∨ signB c = true) : (kdB w b = nI c) = (tkSort w b = nI c) := by
  have h1 : ∀ k : Nat, k < 16 → ∀ c : Nat, c < 63 → (c = 0 ∨ c = 2 ∨ 37 ≤ c) → (if k < 11 then (3 : Int32) else nI (300 + k)) ≠ nI c := by decide +kernel
  have h2 : ∀ c : Nat, c < 63 → (c = 0 ∨ c = 2 ∨ 37 ≤ c) → (1 : Int32) ≠ nI c ∧ (-1 : Int32) ≠ nI c := by decide +kernel
  have cc : c < 63 ∧ (c = 0 ∨ c = 2 ∨ 37 ≤ c) := by
    rcases hc with hc | hc | hc
    · omega
    · omega
    · have := signB_iff.mp hc; omega
  obtain ⟨n1, n2⟩ := h2 c cc.1 cc.2
  rcases tok_cases F Y hb with ⟨k, hk, e1, -, e2, -⟩ | ⟨e1, -, e2⟩ | ⟨e1, e2, -⟩ | ⟨e1, e2⟩ | ⟨q, -, e1, e2⟩ | ⟨e1, e2⟩
  · rw [e1, e2, eq_false n1, eq_false (h1 k hk c cc.1 cc.2)]
  · rw [e1, e2]
  · rw [e1, e2]
  · rw [e1, e2, eq_false n1, eq_false n2]
  · rw [e1, e2]
  · rw [e1, e2]
/-- all places lie on the tape, and there is an end -/
theorem pos_le {w : AH} : ∀ i, pos w i ≤ lenT w ∧ plc w i ≤ lenT w := by
  intro i
  induction i with
  | zero => exact ⟨Nat.zero_le _, runTo_lt blankQ_lt _ _ (Nat.zero_le _)⟩
  | succ i ih =>
    have h1 : pos w (i + 1) ≤ lenT w := by
      show tkEnd w (plc w i) ≤ lenT w
      by_cases c : plc w i < lenT w
      · exact (tkEnd_b c).2
      · unfold tkEnd; rw [if_neg c]; exact ih.2
    exact ⟨h1, runTo_lt blankQ_lt _ _ h1⟩
