/-! each call keeps the invariants, on -/
section
variable {w : AH} {P : Nat → Prog}
theorem int8_sgn (y : Int8) : ∃ b, b < 256 ∧ y.toInt32 = sgn b := by
  have h : ∀ n : Nat, n < 256 → (Int8.ofBitVec (BitVec.ofNat 8 n)).toInt32 = sgn n := by decide +kernel
  refine ⟨y.toBitVec.toNat, y.toBitVec.isLt, ?_⟩
  rw [← h _ y.toBitVec.isLt, BitVec.ofNat_toNat, BitVec.setWidth_eq]
  rfl
theorem tb_sgn (v : Int32) (j : Nat) : ∃ b, b < 256 ∧ tb v j = sgn b := by
  unfold tb
  rw [Int8.toInt8_toInt32]
  exact int8_sgn _
theorem fed_I (w : AH) (k : Nat) (v : Int32) (j : Nat) {a : Nat} (h1 : a ≠ 49) (h2 : a ≠ 68) : hI (fed w k v j) a = hI w a := by
  induction j with
  | zero => rfl
  | succ j ih => unfold fed; rw [q_ne h1, q_ne h2]; exact ih
theorem fed_49 (w : AH) (k : Nat) (v : Int32) (j : Nat) {c : Nat} (h : c ≠ 25) : hI (fed w k v j) 49 c = hI w 49 c := by
  induction j with
  | zero => rfl
  | succ j ih => unfold fed; rw [q_atne h, q_ne (by decide)]; exact ih
theorem fed_By {w : AH} (Y : WBy w) (k : Nat) (v : Int32) (j : Nat) : WBy (fed w k v j) := by
  induction j with
  | zero => exact Y
  | succ j ih =>
    intro i hi
    unfold fed
    rw [q_ne (by decide), q_II]
    by_cases q : i = k + j
    · rw [if_pos ⟨rfl, q⟩]; exact tb_sgn v j
    · rw [if_neg (fun y => q y.2)]; exact ih i hi
theorem kp_feed (G : WF w P) (c v : Int32) : WF (s_feed w c v).2 P := by
  unfold s_feed
  by_cases z : 1 ≤ c ∧ c ≤ 4
  · rw [if_pos z]
    by_cases y : hI w 49 25 + c ≤ 160
    · rw [if_pos y]
      obtain ⟨k, hk, e⟩ := G.WF1
      obtain ⟨j, hj, rfl⟩ := nI_in0 (show 0 ≤ c by grind) (n := 5) (by omega) (by have : nI 5 = 5 := rfl; grind)
      rw [e, nI_clamp (show k < 2 ^ 31 by omega), nI_clamp (show j < 2 ^ 31 by omega)]
      rw [e, nI_add, show (160 : Int32) = nI 160 from rfl, nI_leI (by omega) (by omega)] at y
      have f1 : WF1 (fed w k v j) := ⟨k + j, y, fed_tp e v j⟩
      have y1 := fed_By G.WBy k v j
      exact ⟨G.WN.fr (by first | exact fed_I w k v j (by decide) (by decide) | exact fed_49 w k v j (by decide)) (by first | exact fed_I w k v j (by decide) (by decide) | exact fed_49 w k v j (by decide)) (by first | exact fed_I w k v j (by decide) (by decide) | exact fed_49 w k v j (by decide)) (by first | exact fed_I w k v j (by decide) (by decide) | exact fed_49 w k v j (by decide)) (by first | exact fed_I w k v j (by decide) (by decide) | exact fed_49 w k v j (by decide)) (by first | exact fed_I w k v j (by decide) (by decide) | exact fed_49 w k v j (by decide)) (by first | exact fed_I w k v j (by decide) (by decide) | exact fed_49 w k v j (by decide)) (by first | exact fed_I w k v j (by decide) (by decide) | exact fed_49 w k v j (by decide)), G.WB.fr (by first | exact fed_I w k v j (by decide) (by decide) | exact fed_49 w k v j (by decide)) (by first | exact fed_I w k v j (by decide) (by decide) | exact fed_49 w k v j (by decide)) (by first | exact fed_I w k v j (by decide) (by decide) | exact fed_49 w k v j (by decide)) (by first | exact fed_I w k v j (by decide) (by decide) | exact fed_49 w k v j (by decide)) (by first | exact fed_I w k v j (by decide) (by decide) | exact fed_49 w k v j (by decide)) (by first | exact fed_I w k v j (by decide) (by decide) | exact fed_49 w k v j (by decide)), G.WM.fr (by first | exact fed_I w k v j (by decide) (by decide) | exact fed_49 w k v j (by decide)) (by first | exact fed_I w k v j (by decide) (by decide) | exact fed_49 w k v j (by decide)) (by first | exact fed_I w k v j (by decide) (by decide) | exact fed_49 w k v j (by decide)) (by first | exact fed_I w k v j (by decide) (by decide) | exact fed_49 w k v j (by decide)) (by first | exact fed_I w k v j (by decide) (by decide) | exact fed_49 w k v j (by decide)), G.WL.fr (by first | exact fed_I w k v j (by decide) (by decide) | exact fed_49 w k v j (by decide)) (by first | exact fed_I w k v j (by decide) (by decide) | exact fed_49 w k v j (by decide)) (by first | exact fed_I w k v j (by decide) (by decide) | exact fed_49 w k v j (by decide)) (by first | exact fed_I w k v j (by decide) (by decide) | exact fed_49 w k v j (by decide)) (by first | exact fed_I w k v j (by decide) (by decide) | exact fed_49 w k v j (by decide)) (by first | exact fed_I w k v j (by decide) (by decide) | exact fed_49 w k v j (by decide)) (by first | exact fed_I w k v j (by decide) (by decide) | exact fed_49 w k v j (by decide)), G.WP.fr (by first | exact fed_I w k v j (by decide) (by decide) | exact fed_49 w k v j (by decide)) (by first | exact fed_I w k v j (by decide) (by decide) | exact fed_49 w k v j (by decide)) (by first | exact fed_I w k v j (by decide) (by decide) | exact fed_49 w k v j (by decide)) (by first | exact fed_I w k v j (by decide) (by decide) | exact fed_49 w k v j (by decide)), G.WA.fr (by first | exact fed_I w k v j (by decide) (by decide) | exact fed_49 w k v j (by decide)) (by first | exact fed_I w k v j (by decide) (by decide) | exact fed_49 w k v j (by decide)) (by first | exact fed_I w k v j (by decide) (by decide) | exact fed_49 w k v j (by decide)) (by first | exact fed_I w k v j (by decide) (by decide) | exact fed_49 w k v j (by decide)), G.WT.fr (by first | exact fed_I w k v j (by decide) (by decide) | exact fed_49 w k v j (by decide)) (by first | exact fed_I w k v j (by decide) (by decide) | exact fed_49 w k v j (by decide)) (by first | exact fed_I w k v j (by decide) (by decide) | exact fed_49 w k v j (by decide)) (by first | exact fed_I w k v j (by decide) (by decide) | exact fed_49 w k v j (by decide)) (by first | exact fed_I w k v j (by decide) (by decide) | exact fed_49 w k v j (by decide)) (by first | exact fed_I w k v j (by decide) (by decide) | exact fed_49 w k v j (by decide)), G.WS.fr (by first | exact fed_I w k v j (by decide) (by decide) | exact fed_49 w k v j (by decide)) (by first | exact fed_I w k v j (by decide) (by decide) | exact fed_49 w k v j (by decide)) (by first | exact fed_I w k v j (by decide) (by decide) | exact fed_49 w k v j (by decide)), G.WV.fr (by first | exact fed_I w k v j (by decide) (by decide) | exact fed_49 w k v j (by decide)) (by first | exact fed_I w k v j (by decide) (by decide) | exact fed_49 w k v j (by decide)), G.WH.fr (by first | exact fed_I w k v j (by decide) (by decide) | exact fed_49 w k v j (by decide)) (by first | exact fed_I w k v j (by decide) (by decide) | exact fed_49 w k v j (by decide)) (by first | exact fed_I w k v j (by decide) (by decide) | exact fed_49 w k v j (by decide)), G.WG.fr (by first | exact fed_I w k v j (by decide) (by decide) | exact fed_49 w k v j (by decide)), G.WK.fr (by first | exact fed_I w k v j (by decide) (by decide) | exact fed_49 w k v j (by decide)) (by first | exact fed_I w k v j (by decide) (by decide) | exact fed_49 w k v j (by decide)) (by first | exact fed_I w k v j (by decide) (by decide) | exact fed_49 w k v j (by decide)), f1, y1, G.WD.fr (by first | exact fed_I w k v j (by decide) (by decide) | exact fed_49 w k v j (by decide)) (by first | exact fed_I w k v j (by decide) (by decide) | exact fed_49 w k v j (by decide)) (by first | exact fed_I w k v j (by decide) (by decide) | exact fed_49 w k v j (by decide)) (by first | exact fed_I w k v j (by decide) (by decide) | exact fed_49 w k v j (by decide)) (by first | exact fed_I w k v j (by decide) (by decide) | exact fed_49 w k v j (by decide)) (by first | exact fed_I w k v j (by decide) (by decide) | exact fed_49 w k v j (by decide)) (by first | exact fed_I w k v j (by decide) (by decide) | exact fed_49 w k v j (by decide)), G.WWo.fr (by first | exact fed_I w k v j (by decide) (by decide) | exact fed_49 w k v j (by decide)) (by first | exact fed_I w k v j (by decide) (by decide) | exact fed_49 w k v j (by decide)) (by first | exact fed_I w k v j (by decide) (by decide) | exact fed_49 w k v j (by decide)) (by first | exact fed_I w k v j (by decide) (by decide) | exact fed_49 w k v j (by decide)) (by first | exact fed_I w k v j (by decide) (by decide) | exact fed_49 w k v j (by decide)) (by first | exact fed_I w k v j (by decide) (by decide) | exact fed_49 w k v j (by decide)), G.WZr.fr (by first | exact fed_I w k v j (by decide) (by decide) | exact fed_49 w k v j (by decide)) (by first | exact fed_I w k v j (by decide) (by decide) | exact fed_49 w k v j (by decide)) (by first | exact fed_I w k v j (by decide) (by decide) | exact fed_49 w k v j (by decide)) (by first | exact fed_I w k v j (by decide) (by decide) | exact fed_49 w k v j (by decide))⟩
    · rw [if_neg y]; exact G
  · rw [if_neg z]; exact G
end
