/-! each call keeps the invariants, on -/
section
variable {w : AH} {P : Nat → Prog}
theorem kp_keep (G : WF w P) (a b : Int32) : WF (s_keep w a b).2 P := by
  unfold s_keep
  by_cases z : isShelf_ a = true ∧ (b = -1 ∨ isBody_ w b = true)
  · rw [if_pos z]
    have z1 : WH (wI w 103 a.toNatClampNeg b) := by
      intro s hs
      rw [q_ne (by decide) (a := 103) (b := 104), q_II]
      have eB : nB (wI w 103 a.toNatClampNeg b) = nB w := rfl
      by_cases q : s = a.toNatClampNeg
      · rw [if_pos ⟨rfl, q⟩]
        rcases z.2 with e | e
        · exact Or.inl e
        · obtain ⟨i, hi, e⟩ := isBody_ex G.WN e
          exact Or.inr (Or.inl ⟨i, hi, e⟩)
      · rw [if_neg (fun y => q y.2)]; exact G.WH s hs
    exact ⟨G.WN.fr (by simp (config := {maxSteps := 5000000}) (disch := omega) only [q_ne, q_atne]) (by simp (config := {maxSteps := 5000000}) (disch := omega) only [q_ne, q_atne]) (by simp (config := {maxSteps := 5000000}) (disch := omega) only [q_ne, q_atne]) (by simp (config := {maxSteps := 5000000}) (disch := omega) only [q_ne, q_atne]) (by simp (config := {maxSteps := 5000000}) (disch := omega) only [q_ne, q_atne]) (by simp (config := {maxSteps := 5000000}) (disch := omega) only [q_ne, q_atne]) (by simp (config := {maxSteps := 5000000}) (disch := omega) only [q_ne, q_atne]) (by simp (config := {maxSteps := 5000000}) (disch := omega) only [q_ne, q_atne]), G.WB.fr (by simp (config := {maxSteps := 5000000}) (disch := omega) only [q_ne, q_atne]) (by simp (config := {maxSteps := 5000000}) (disch := omega) only [q_ne, q_atne]) (by simp (config := {maxSteps := 5000000}) (disch := omega) only [q_ne, q_atne]) (by simp (config := {maxSteps := 5000000}) (disch := omega) only [q_ne, q_atne]) (by simp (config := {maxSteps := 5000000}) (disch := omega) only [q_ne, q_atne]) (by simp (config := {maxSteps := 5000000}) (disch := omega) only [q_ne, q_atne]), G.WM.fr (by simp (config := {maxSteps := 5000000}) (disch := omega) only [q_ne, q_atne]) (by simp (config := {maxSteps := 5000000}) (disch := omega) only [q_ne, q_atne]) (by simp (config := {maxSteps := 5000000}) (disch := omega) only [q_ne, q_atne]) (by simp (config := {maxSteps := 5000000}) (disch := omega) only [q_ne, q_atne]) (by simp (config := {maxSteps := 5000000}) (disch := omega) only [q_ne, q_atne]), G.WL.fr (by simp (config := {maxSteps := 5000000}) (disch := omega) only [q_ne, q_atne]) (by simp (config := {maxSteps := 5000000}) (disch := omega) only [q_ne, q_atne]) (by simp (config := {maxSteps := 5000000}) (disch := omega) only [q_ne, q_atne]) (by simp (config := {maxSteps := 5000000}) (disch := omega) only [q_ne, q_atne]) (by simp (config := {maxSteps := 5000000}) (disch := omega) only [q_ne, q_atne]) (by simp (config := {maxSteps := 5000000}) (disch := omega) only [q_ne, q_atne]) (by simp (config := {maxSteps := 5000000}) (disch := omega) only [q_ne, q_atne]), G.WP.fr (by simp (config := {maxSteps := 5000000}) (disch := omega) only [q_ne, q_atne]) (by simp (config := {maxSteps := 5000000}) (disch := omega) only [q_ne, q_atne]) (by simp (config := {maxSteps := 5000000}) (disch := omega) only [q_ne, q_atne]) (by simp (config := {maxSteps := 5000000}) (disch := omega) only [q_ne, q_atne]), G.WA.fr (by simp (config := {maxSteps := 5000000}) (disch := omega) only [q_ne, q_atne]) (by simp (config := {maxSteps := 5000000}) (disch := omega) only [q_ne, q_atne]) (by simp (config := {maxSteps := 5000000}) (disch := omega) only [q_ne, q_atne]) (by simp (config := {maxSteps := 5000000}) (disch := omega) only [q_ne, q_atne]), G.WT.fr (by simp (config := {maxSteps := 5000000}) (disch := omega) only [q_ne, q_atne]) (by simp (config := {maxSteps := 5000000}) (disch := omega) only [q_ne, q_atne]) (by simp (config := {maxSteps := 5000000}) (disch := omega) only [q_ne, q_atne]) (by simp (config := {maxSteps := 5000000}) (disch := omega) only [q_ne, q_atne]) (by simp (config := {maxSteps := 5000000}) (disch := omega) only [q_ne, q_atne]) (by simp (config := {maxSteps := 5000000}) (disch := omega) only [q_ne, q_atne]), G.WS.fr (by simp (config := {maxSteps := 5000000}) (disch := omega) only [q_ne, q_atne]) (by simp (config := {maxSteps := 5000000}) (disch := omega) only [q_ne, q_atne]) (by simp (config := {maxSteps := 5000000}) (disch := omega) only [q_ne, q_atne]), G.WV.fr (by simp (config := {maxSteps := 5000000}) (disch := omega) only [q_ne, q_atne]) (by simp (config := {maxSteps := 5000000}) (disch := omega) only [q_ne, q_atne]), z1, G.WG.fr (by simp (config := {maxSteps := 5000000}) (disch := omega) only [q_ne, q_atne]), G.WK.fr (by simp (config := {maxSteps := 5000000}) (disch := omega) only [q_ne, q_atne]) (by simp (config := {maxSteps := 5000000}) (disch := omega) only [q_ne, q_atne]) (by simp (config := {maxSteps := 5000000}) (disch := omega) only [q_ne, q_atne]), G.WF1.fr (by simp (config := {maxSteps := 5000000}) (disch := omega) only [q_ne, q_atne]), G.WBy.fr (by simp (config := {maxSteps := 5000000}) (disch := omega) only [q_ne, q_atne]), G.WD.fr (by simp (config := {maxSteps := 5000000}) (disch := omega) only [q_ne, q_atne]) (by simp (config := {maxSteps := 5000000}) (disch := omega) only [q_ne, q_atne]) (by simp (config := {maxSteps := 5000000}) (disch := omega) only [q_ne, q_atne]) (by simp (config := {maxSteps := 5000000}) (disch := omega) only [q_ne, q_atne]) (by simp (config := {maxSteps := 5000000}) (disch := omega) only [q_ne, q_atne]) (by simp (config := {maxSteps := 5000000}) (disch := omega) only [q_ne, q_atne]) (by simp (config := {maxSteps := 5000000}) (disch := omega) only [q_ne, q_atne]), G.WWo.fr (by simp (config := {maxSteps := 5000000}) (disch := omega) only [q_ne, q_atne]) (by simp (config := {maxSteps := 5000000}) (disch := omega) only [q_ne, q_atne]) (by simp (config := {maxSteps := 5000000}) (disch := omega) only [q_ne, q_atne]) (by simp (config := {maxSteps := 5000000}) (disch := omega) only [q_ne, q_atne]) (by simp (config := {maxSteps := 5000000}) (disch := omega) only [q_ne, q_atne]) (by simp (config := {maxSteps := 5000000}) (disch := omega) only [q_ne, q_atne]), G.WZr.fr (by simp (config := {maxSteps := 5000000}) (disch := omega) only [q_ne, q_atne]) (by simp (config := {maxSteps := 5000000}) (disch := omega) only [q_ne, q_atne]) (by simp (config := {maxSteps := 5000000}) (disch := omega) only [q_ne, q_atne]) (by simp (config := {maxSteps := 5000000}) (disch := omega) only [q_ne, q_atne])⟩
  · rw [if_neg z]; exact G
theorem kp_row (G : WF w P) (a k n : Int32) : WF (s_row w a k n).2 P := by
  unfold s_row
  by_cases z : isShelf_ a = true ∧ (0 ≤ k ∧ k ≤ 4) ∧ n ≤ 60
  · rw [if_pos z]
    by_cases y : 0 ≤ n
    · rw [if_pos y]
      show WF (zL (wI (wI w 103 a.toNatClampNeg (-2 - k)) 104 a.toNatClampNeg n) a.toNatClampNeg 60) P
      have e : hI (zL (wI (wI w 103 a.toNatClampNeg (-2 - k)) 104 a.toNatClampNeg n) a.toNatClampNeg 60) = hI (wI (wI w 103 a.toNatClampNeg (-2 - k)) 104 a.toNatClampNeg n) := q_Iz _ _ _
      generalize zL (wI (wI w 103 a.toNatClampNeg (-2 - k)) 104 a.toNatClampNeg n) a.toNatClampNeg 60 = w1 at *
      have e1 : ∀ b, b ≠ 103 → b ≠ 104 → hI w1 b = hI w b := fun b h1 h2 => by rw [e, q_ne h2, q_ne h1]
      have z1 : WH w1 := by
        intro s hs
        have eB : nB w1 = nB w := by unfold nB; rw [e1 49 (by decide) (by decide)]
        have e103 : hI w1 103 s = if s = a.toNatClampNeg then -2 - k else hI w 103 s := by rw [e, q_ne (by decide), q_II]; simp
        have e104 : hI w1 104 s = if s = a.toNatClampNeg then n else hI w 104 s := by rw [e, q_II, q_ne (by decide)]; simp
        rw [eB, e103, e104]
        by_cases q : s = a.toNatClampNeg
        · rw [if_pos q, if_pos q]
          obtain ⟨i, hi, ek⟩ := nI_in0 z.2.1.1 (n := 5) (by omega) (by have : nI 5 = 5 := rfl; have := z.2.1.2; grind)
          obtain ⟨j, hj, en⟩ := nI_in0 y (n := 61) (by omega) (by have : nI 61 = 61 := rfl; have := z.2.2; grind)
          exact Or.inr (Or.inr ⟨⟨i, by omega, by rw [ek]⟩, j, by omega, en⟩)
        · rw [if_neg q, if_neg q]; exact G.WH s hs
      exact ⟨G.WN.fr (by first | exact e1 _ (by decide) (by decide) | exact congrFun (e1 49 (by decide) (by decide)) _) (by first | exact e1 _ (by decide) (by decide) | exact congrFun (e1 49 (by decide) (by decide)) _) (by first | exact e1 _ (by decide) (by decide) | exact congrFun (e1 49 (by decide) (by decide)) _) (by first | exact e1 _ (by decide) (by decide) | exact congrFun (e1 49 (by decide) (by decide)) _) (by first | exact e1 _ (by decide) (by decide) | exact congrFun (e1 49 (by decide) (by decide)) _) (by first | exact e1 _ (by decide) (by decide) | exact congrFun (e1 49 (by decide) (by decide)) _) (by first | exact e1 _ (by decide) (by decide) | exact congrFun (e1 49 (by decide) (by decide)) _) (by first | exact e1 _ (by decide) (by decide) | exact congrFun (e1 49 (by decide) (by decide)) _), G.WB.fr (by first | exact e1 _ (by decide) (by decide) | exact congrFun (e1 49 (by decide) (by decide)) _) (by first | exact e1 _ (by decide) (by decide) | exact congrFun (e1 49 (by decide) (by decide)) _) (by first | exact e1 _ (by decide) (by decide) | exact congrFun (e1 49 (by decide) (by decide)) _) (by first | exact e1 _ (by decide) (by decide) | exact congrFun (e1 49 (by decide) (by decide)) _) (by first | exact e1 _ (by decide) (by decide) | exact congrFun (e1 49 (by decide) (by decide)) _) (by first | exact e1 _ (by decide) (by decide) | exact congrFun (e1 49 (by decide) (by decide)) _), G.WM.fr (by first | exact e1 _ (by decide) (by decide) | exact congrFun (e1 49 (by decide) (by decide)) _) (by first | exact e1 _ (by decide) (by decide) | exact congrFun (e1 49 (by decide) (by decide)) _) (by first | exact e1 _ (by decide) (by decide) | exact congrFun (e1 49 (by decide) (by decide)) _) (by first | exact e1 _ (by decide) (by decide) | exact congrFun (e1 49 (by decide) (by decide)) _) (by first | exact e1 _ (by decide) (by decide) | exact congrFun (e1 49 (by decide) (by decide)) _), G.WL.fr (by first | exact e1 _ (by decide) (by decide) | exact congrFun (e1 49 (by decide) (by decide)) _) (by first | exact e1 _ (by decide) (by decide) | exact congrFun (e1 49 (by decide) (by decide)) _) (by first | exact e1 _ (by decide) (by decide) | exact congrFun (e1 49 (by decide) (by decide)) _) (by first | exact e1 _ (by decide) (by decide) | exact congrFun (e1 49 (by decide) (by decide)) _) (by first | exact e1 _ (by decide) (by decide) | exact congrFun (e1 49 (by decide) (by decide)) _) (by first | exact e1 _ (by decide) (by decide) | exact congrFun (e1 49 (by decide) (by decide)) _) (by first | exact e1 _ (by decide) (by decide) | exact congrFun (e1 49 (by decide) (by decide)) _), G.WP.fr (by first | exact e1 _ (by decide) (by decide) | exact congrFun (e1 49 (by decide) (by decide)) _) (by first | exact e1 _ (by decide) (by decide) | exact congrFun (e1 49 (by decide) (by decide)) _) (by first | exact e1 _ (by decide) (by decide) | exact congrFun (e1 49 (by decide) (by decide)) _) (by first | exact e1 _ (by decide) (by decide) | exact congrFun (e1 49 (by decide) (by decide)) _), G.WA.fr (by first | exact e1 _ (by decide) (by decide) | exact congrFun (e1 49 (by decide) (by decide)) _) (by first | exact e1 _ (by decide) (by decide) | exact congrFun (e1 49 (by decide) (by decide)) _) (by first | exact e1 _ (by decide) (by decide) | exact congrFun (e1 49 (by decide) (by decide)) _) (by first | exact e1 _ (by decide) (by decide) | exact congrFun (e1 49 (by decide) (by decide)) _), G.WT.fr (by first | exact e1 _ (by decide) (by decide) | exact congrFun (e1 49 (by decide) (by decide)) _) (by first | exact e1 _ (by decide) (by decide) | exact congrFun (e1 49 (by decide) (by decide)) _) (by first | exact e1 _ (by decide) (by decide) | exact congrFun (e1 49 (by decide) (by decide)) _) (by first | exact e1 _ (by decide) (by decide) | exact congrFun (e1 49 (by decide) (by decide)) _) (by first | exact e1 _ (by decide) (by decide) | exact congrFun (e1 49 (by decide) (by decide)) _) (by first | exact e1 _ (by decide) (by decide) | exact congrFun (e1 49 (by decide) (by decide)) _), G.WS.fr (by first | exact e1 _ (by decide) (by decide) | exact congrFun (e1 49 (by decide) (by decide)) _) (by first | exact e1 _ (by decide) (by decide) | exact congrFun (e1 49 (by decide) (by decide)) _) (by first | exact e1 _ (by decide) (by decide) | exact congrFun (e1 49 (by decide) (by decide)) _), G.WV.fr (by first | exact e1 _ (by decide) (by decide) | exact congrFun (e1 49 (by decide) (by decide)) _) (by first | exact e1 _ (by decide) (by decide) | exact congrFun (e1 49 (by decide) (by decide)) _), z1, G.WG.fr (by first | exact e1 _ (by decide) (by decide) | exact congrFun (e1 49 (by decide) (by decide)) _), G.WK.fr (by first | exact e1 _ (by decide) (by decide) | exact congrFun (e1 49 (by decide) (by decide)) _) (by first | exact e1 _ (by decide) (by decide) | exact congrFun (e1 49 (by decide) (by decide)) _) (by first | exact e1 _ (by decide) (by decide) | exact congrFun (e1 49 (by decide) (by decide)) _), G.WF1.fr (by first | exact e1 _ (by decide) (by decide) | exact congrFun (e1 49 (by decide) (by decide)) _), G.WBy.fr (by first | exact e1 _ (by decide) (by decide) | exact congrFun (e1 49 (by decide) (by decide)) _), G.WD.fr (by first | exact e1 _ (by decide) (by decide) | exact congrFun (e1 49 (by decide) (by decide)) _) (by first | exact e1 _ (by decide) (by decide) | exact congrFun (e1 49 (by decide) (by decide)) _) (by first | exact e1 _ (by decide) (by decide) | exact congrFun (e1 49 (by decide) (by decide)) _) (by first | exact e1 _ (by decide) (by decide) | exact congrFun (e1 49 (by decide) (by decide)) _) (by first | exact e1 _ (by decide) (by decide) | exact congrFun (e1 49 (by decide) (by decide)) _) (by first | exact e1 _ (by decide) (by decide) | exact congrFun (e1 49 (by decide) (by decide)) _) (by first | exact e1 _ (by decide) (by decide) | exact congrFun (e1 49 (by decide) (by decide)) _), G.WWo.fr (by first | exact e1 _ (by decide) (by decide) | exact congrFun (e1 49 (by decide) (by decide)) _) (by first | exact e1 _ (by decide) (by decide) | exact congrFun (e1 49 (by decide) (by decide)) _) (by first | exact e1 _ (by decide) (by decide) | exact congrFun (e1 49 (by decide) (by decide)) _) (by first | exact e1 _ (by decide) (by decide) | exact congrFun (e1 49 (by decide) (by decide)) _) (by first | exact e1 _ (by decide) (by decide) | exact congrFun (e1 49 (by decide) (by decide)) _) (by first | exact e1 _ (by decide) (by decide) | exact congrFun (e1 49 (by decide) (by decide)) _), G.WZr.fr (by first | exact e1 _ (by decide) (by decide) | exact congrFun (e1 49 (by decide) (by decide)) _) (by first | exact e1 _ (by decide) (by decide) | exact congrFun (e1 49 (by decide) (by decide)) _) (by first | exact e1 _ (by decide) (by decide) | exact congrFun (e1 49 (by decide) (by decide)) _) (by first | exact e1 _ (by decide) (by decide) | exact congrFun (e1 49 (by decide) (by decide)) _)⟩
    · rw [if_neg y]; exact G
  · rw [if_neg z]; exact G
theorem kp_put (G : WF w P) (a i : Int32) (v : Int64) : WF (s_put w a i v).2 P := by
  unfold s_put
  split
  · split
    · exact G
    · split
      · exact G
      · split
        · exact G.fr (fun _ _ => rfl) (fun _ _ => rfl)
        · exact G
  · exact G
theorem kp_shift (G : WF w P) (a i b j n : Int32) : WF (s_shift w a i b j n).2 P := by
  unfold s_shift
  split
  · split
    · exact G
    · split
      · exact G
      · split
        · exact G.fr (fun _ _ => rfl) (fun _ _ => rfl)
        · exact G
  · exact G
theorem int8_sgn (y : Int8) : ∃ b, b < 256 ∧ y.toInt32 = sgn b := by
  have h : ∀ n : Nat, n < 256 → (Int8.ofBitVec (BitVec.ofNat 8 n)).toInt32 = sgn n := by decide +kernel
  refine ⟨y.toBitVec.toNat, y.toBitVec.isLt, ?_⟩
  rw [← h _ y.toBitVec.isLt, BitVec.ofNat_toNat, BitVec.setWidth_eq]
  rfl
theorem tb_sgn (v : Int32) (j : Nat) : ∃ b, b < 256 ∧ tb v j = sgn b := by
  unfold tb
  rw [Int8.toInt8_toInt32]
  exact int8_sgn _
theorem fed_I (w : AH) (k : Nat) (v : Int32) (j : Nat) {a : Nat} (h1 : a ≠ 49) (h2 : a ≠ 68) : hI (fed w k v j) a = hI w a := by
  induction j with
  | zero => rfl
  | succ j ih => unfold fed; rw [q_ne h1, q_ne h2]; exact ih
theorem fed_49 (w : AH) (k : Nat) (v : Int32) (j : Nat) {c : Nat} (h : c ≠ 25) : hI (fed w k v j) 49 c = hI w 49 c := by
  induction j with
  | zero => rfl
  | succ j ih => unfold fed; rw [q_atne h, q_ne (by decide)]; exact ih
theorem fed_By {w : AH} (Y : WBy w) (k : Nat) (v : Int32) (j : Nat) : WBy (fed w k v j) := by
  induction j with
  | zero => exact Y
  | succ j ih =>
    intro i hi
    unfold fed
    rw [q_ne (by decide), q_II]
    by_cases q : i = k + j
    · rw [if_pos ⟨rfl, q⟩]; exact tb_sgn v j
    · rw [if_neg (fun y => q y.2)]; exact ih i hi
theorem kp_feed (G : WF w P) (c v : Int32) : WF (s_feed w c v).2 P := by
  unfold s_feed
  by_cases z : 1 ≤ c ∧ c ≤ 4
  · rw [if_pos z]
    by_cases y : hI w 49 25 + c ≤ 160
    · rw [if_pos y]
      obtain ⟨k, hk, e⟩ := G.WF1
      obtain ⟨j, hj, rfl⟩ := nI_in0 (show 0 ≤ c by grind) (n := 5) (by omega) (by have : nI 5 = 5 := rfl; grind)
      rw [e, nI_clamp (show k < 2 ^ 31 by omega), nI_clamp (show j < 2 ^ 31 by omega)]
      rw [e, nI_add, show (160 : Int32) = nI 160 from rfl, nI_leI (by omega) (by omega)] at y
      have f1 : WF1 (fed w k v j) := ⟨k + j, y, fed_tp e v j⟩
      have y1 := fed_By G.WBy k v j
      exact ⟨G.WN.fr (by first | exact fed_I w k v j (by decide) (by decide) | exact fed_49 w k v j (by decide)) (by first | exact fed_I w k v j (by decide) (by decide) | exact fed_49 w k v j (by decide)) (by first | exact fed_I w k v j (by decide) (by decide) | exact fed_49 w k v j (by decide)) (by first | exact fed_I w k v j (by decide) (by decide) | exact fed_49 w k v j (by decide)) (by first | exact fed_I w k v j (by decide) (by decide) | exact fed_49 w k v j (by decide)) (by first | exact fed_I w k v j (by decide) (by decide) | exact fed_49 w k v j (by decide)) (by first | exact fed_I w k v j (by decide) (by decide) | exact fed_49 w k v j (by decide)) (by first | exact fed_I w k v j (by decide) (by decide) | exact fed_49 w k v j (by decide)), G.WB.fr (by first | exact fed_I w k v j (by decide) (by decide) | exact fed_49 w k v j (by decide)) (by first | exact fed_I w k v j (by decide) (by decide) | exact fed_49 w k v j (by decide)) (by first | exact fed_I w k v j (by decide) (by decide) | exact fed_49 w k v j (by decide)) (by first | exact fed_I w k v j (by decide) (by decide) | exact fed_49 w k v j (by decide)) (by first | exact fed_I w k v j (by decide) (by decide) | exact fed_49 w k v j (by decide)) (by first | exact fed_I w k v j (by decide) (by decide) | exact fed_49 w k v j (by decide)), G.WM.fr (by first | exact fed_I w k v j (by decide) (by decide) | exact fed_49 w k v j (by decide)) (by first | exact fed_I w k v j (by decide) (by decide) | exact fed_49 w k v j (by decide)) (by first | exact fed_I w k v j (by decide) (by decide) | exact fed_49 w k v j (by decide)) (by first | exact fed_I w k v j (by decide) (by decide) | exact fed_49 w k v j (by decide)) (by first | exact fed_I w k v j (by decide) (by decide) | exact fed_49 w k v j (by decide)), G.WL.fr (by first | exact fed_I w k v j (by decide) (by decide) | exact fed_49 w k v j (by decide)) (by first | exact fed_I w k v j (by decide) (by decide) | exact fed_49 w k v j (by decide)) (by first | exact fed_I w k v j (by decide) (by decide) | exact fed_49 w k v j (by decide)) (by first | exact fed_I w k v j (by decide) (by decide) | exact fed_49 w k v j (by decide)) (by first | exact fed_I w k v j (by decide) (by decide) | exact fed_49 w k v j (by decide)) (by first | exact fed_I w k v j (by decide) (by decide) | exact fed_49 w k v j (by decide)) (by first | exact fed_I w k v j (by decide) (by decide) | exact fed_49 w k v j (by decide)), G.WP.fr (by first | exact fed_I w k v j (by decide) (by decide) | exact fed_49 w k v j (by decide)) (by first | exact fed_I w k v j (by decide) (by decide) | exact fed_49 w k v j (by decide)) (by first | exact fed_I w k v j (by decide) (by decide) | exact fed_49 w k v j (by decide)) (by first | exact fed_I w k v j (by decide) (by decide) | exact fed_49 w k v j (by decide)), G.WA.fr (by first | exact fed_I w k v j (by decide) (by decide) | exact fed_49 w k v j (by decide)) (by first | exact fed_I w k v j (by decide) (by decide) | exact fed_49 w k v j (by decide)) (by first | exact fed_I w k v j (by decide) (by decide) | exact fed_49 w k v j (by decide)) (by first | exact fed_I w k v j (by decide) (by decide) | exact fed_49 w k v j (by decide)), G.WT.fr (by first | exact fed_I w k v j (by decide) (by decide) | exact fed_49 w k v j (by decide)) (by first | exact fed_I w k v j (by decide) (by decide) | exact fed_49 w k v j (by decide)) (by first | exact fed_I w k v j (by decide) (by decide) | exact fed_49 w k v j (by decide)) (by first | exact fed_I w k v j (by decide) (by decide) | exact fed_49 w k v j (by decide)) (by first | exact fed_I w k v j (by decide) (by decide) | exact fed_49 w k v j (by decide)) (by first | exact fed_I w k v j (by decide) (by decide) | exact fed_49 w k v j (by decide)), G.WS.fr (by first | exact fed_I w k v j (by decide) (by decide) | exact fed_49 w k v j (by decide)) (by first | exact fed_I w k v j (by decide) (by decide) | exact fed_49 w k v j (by decide)) (by first | exact fed_I w k v j (by decide) (by decide) | exact fed_49 w k v j (by decide)), G.WV.fr (by first | exact fed_I w k v j (by decide) (by decide) | exact fed_49 w k v j (by decide)) (by first | exact fed_I w k v j (by decide) (by decide) | exact fed_49 w k v j (by decide)), G.WH.fr (by first | exact fed_I w k v j (by decide) (by decide) | exact fed_49 w k v j (by decide)) (by first | exact fed_I w k v j (by decide) (by decide) | exact fed_49 w k v j (by decide)) (by first | exact fed_I w k v j (by decide) (by decide) | exact fed_49 w k v j (by decide)), G.WG.fr (by first | exact fed_I w k v j (by decide) (by decide) | exact fed_49 w k v j (by decide)), G.WK.fr (by first | exact fed_I w k v j (by decide) (by decide) | exact fed_49 w k v j (by decide)) (by first | exact fed_I w k v j (by decide) (by decide) | exact fed_49 w k v j (by decide)) (by first | exact fed_I w k v j (by decide) (by decide) | exact fed_49 w k v j (by decide)), f1, y1, G.WD.fr (by first | exact fed_I w k v j (by decide) (by decide) | exact fed_49 w k v j (by decide)) (by first | exact fed_I w k v j (by decide) (by decide) | exact fed_49 w k v j (by decide)) (by first | exact fed_I w k v j (by decide) (by decide) | exact fed_49 w k v j (by decide)) (by first | exact fed_I w k v j (by decide) (by decide) | exact fed_49 w k v j (by decide)) (by first | exact fed_I w k v j (by decide) (by decide) | exact fed_49 w k v j (by decide)) (by first | exact fed_I w k v j (by decide) (by decide) | exact fed_49 w k v j (by decide)) (by first | exact fed_I w k v j (by decide) (by decide) | exact fed_49 w k v j (by decide)), G.WWo.fr (by first | exact fed_I w k v j (by decide) (by decide) | exact fed_49 w k v j (by decide)) (by first | exact fed_I w k v j (by decide) (by decide) | exact fed_49 w k v j (by decide)) (by first | exact fed_I w k v j (by decide) (by decide) | exact fed_49 w k v j (by decide)) (by first | exact fed_I w k v j (by decide) (by decide) | exact fed_49 w k v j (by decide)) (by first | exact fed_I w k v j (by decide) (by decide) | exact fed_49 w k v j (by decide)) (by first | exact fed_I w k v j (by decide) (by decide) | exact fed_49 w k v j (by decide)), G.WZr.fr (by first | exact fed_I w k v j (by decide) (by decide) | exact fed_49 w k v j (by decide)) (by first | exact fed_I w k v j (by decide) (by decide) | exact fed_49 w k v j (by decide)) (by first | exact fed_I w k v j (by decide) (by decide) | exact fed_49 w k v j (by decide)) (by first | exact fed_I w k v j (by decide) (by decide) | exact fed_49 w k v j (by decide))⟩
    · rw [if_neg y]; exact G
  · rw [if_neg z]; exact G
theorem kp_asks (G : WF w P) (a b : Int32) : WF (s_asks w a b).2 P := by
  unfold s_asks
  by_cases z : isFinder_ w a = true ∧ isBox_ w b = true
  · rw [if_pos z]
    obtain ⟨i, hi, rfl, hk⟩ := isBox_ex G.WN z.2
    obtain ⟨f, hf, rfl, kf⟩ := isFinder_ex G.WN z.1
    have n150 := G.WN.n150
    rw [nI_clamp (show i < 2 ^ 31 by omega)]
    split
    · exact G
    · split
      · split
        · exact G
        · next h8 =>
          obtain ⟨k, k8, ek, ea⟩ := G.WA i hi hk
          have k7 : k < 8 := by
            rw [ek, show (8 : Int32) = nI 8 from rfl, nI_eq (by omega) (by omega)] at h8
            omega
          have ek1 : nI k + 1 = nI (k + 1) := nI_add _ 1
          rw [ek, ek1, nI_clamp (show k < 2 ^ 31 by omega)]
          have e90 : ∀ j, hI (wI (wI w 90 (8 * i + k) (nI f)) 89 i (nI (k + 1))) 90 j = if j = 8 * i + k then nI f else hI w 90 j := fun j => by rw [q_ne (by decide), q_II]; simp
          have e89 : ∀ j, hI (wI (wI w 90 (8 * i + k) (nI f)) 89 i (nI (k + 1))) 89 j = if j = i then nI (k + 1) else hI w 89 j := fun j => by rw [q_II, q_ne (by decide)]; simp
          have eo : ∀ a, a ≠ 89 → a ≠ 90 → hI (wI (wI w 90 (8 * i + k) (nI f)) 89 i (nI (k + 1))) a = hI w a := fun a h1 h2 => by rw [q_ne h1, q_ne h2]
          generalize wI (wI w 90 (8 * i + k) (nI f)) 89 i (nI (k + 1)) = w1 at *
          have eB : nB w1 = nB w := by unfold nB; rw [eo 49 (by decide) (by decide)]
          have a1 : WA w1 := by
            intro b hb hkb
            rw [eB] at hb
            rw [eo 51 (by decide) (by decide)] at hkb
            rw [eB, eo 51 (by decide) (by decide), e89]
            simp only [e90]
            by_cases q : b = i
            · rw [if_pos q]
              refine ⟨k + 1, by omega, rfl, fun j hj => ?_⟩
              by_cases q2 : j = k
              · rw [if_pos (by omega)]; exact ⟨f, hf, rfl, kf⟩
              · rw [if_neg (by omega), q]; exact ea j (by omega)
            · rw [if_neg q]
              obtain ⟨x, x8, ex, xa⟩ := G.WA b hb hkb
              refine ⟨x, x8, ex, fun j hj => ?_⟩
              rw [if_neg (by omega)]; exact xa j hj
          have z1 : WZr w1 := by
            intro b hb
            rw [eB] at hb
            rw [e89, if_neg (by omega), eo 86 (by decide) (by decide), eo 80 (by decide) (by decide)]
            exact G.WZr b hb
          exact ⟨G.WN.fr (by first | exact eo _ (by decide) (by decide) | exact congrFun (eo 49 (by decide) (by decide)) _) (by first | exact eo _ (by decide) (by decide) | exact congrFun (eo 49 (by decide) (by decide)) _) (by first | exact eo _ (by decide) (by decide) | exact congrFun (eo 49 (by decide) (by decide)) _) (by first | exact eo _ (by decide) (by decide) | exact congrFun (eo 49 (by decide) (by decide)) _) (by first | exact eo _ (by decide) (by decide) | exact congrFun (eo 49 (by decide) (by decide)) _) (by first | exact eo _ (by decide) (by decide) | exact congrFun (eo 49 (by decide) (by decide)) _) (by first | exact eo _ (by decide) (by decide) | exact congrFun (eo 49 (by decide) (by decide)) _) (by first | exact eo _ (by decide) (by decide) | exact congrFun (eo 49 (by decide) (by decide)) _), G.WB.fr (by first | exact eo _ (by decide) (by decide) | exact congrFun (eo 49 (by decide) (by decide)) _) (by first | exact eo _ (by decide) (by decide) | exact congrFun (eo 49 (by decide) (by decide)) _) (by first | exact eo _ (by decide) (by decide) | exact congrFun (eo 49 (by decide) (by decide)) _) (by first | exact eo _ (by decide) (by decide) | exact congrFun (eo 49 (by decide) (by decide)) _) (by first | exact eo _ (by decide) (by decide) | exact congrFun (eo 49 (by decide) (by decide)) _) (by first | exact eo _ (by decide) (by decide) | exact congrFun (eo 49 (by decide) (by decide)) _), G.WM.fr (by first | exact eo _ (by decide) (by decide) | exact congrFun (eo 49 (by decide) (by decide)) _) (by first | exact eo _ (by decide) (by decide) | exact congrFun (eo 49 (by decide) (by decide)) _) (by first | exact eo _ (by decide) (by decide) | exact congrFun (eo 49 (by decide) (by decide)) _) (by first | exact eo _ (by decide) (by decide) | exact congrFun (eo 49 (by decide) (by decide)) _) (by first | exact eo _ (by decide) (by decide) | exact congrFun (eo 49 (by decide) (by decide)) _), G.WL.fr (by first | exact eo _ (by decide) (by decide) | exact congrFun (eo 49 (by decide) (by decide)) _) (by first | exact eo _ (by decide) (by decide) | exact congrFun (eo 49 (by decide) (by decide)) _) (by first | exact eo _ (by decide) (by decide) | exact congrFun (eo 49 (by decide) (by decide)) _) (by first | exact eo _ (by decide) (by decide) | exact congrFun (eo 49 (by decide) (by decide)) _) (by first | exact eo _ (by decide) (by decide) | exact congrFun (eo 49 (by decide) (by decide)) _) (by first | exact eo _ (by decide) (by decide) | exact congrFun (eo 49 (by decide) (by decide)) _) (by first | exact eo _ (by decide) (by decide) | exact congrFun (eo 49 (by decide) (by decide)) _), G.WP.fr (by first | exact eo _ (by decide) (by decide) | exact congrFun (eo 49 (by decide) (by decide)) _) (by first | exact eo _ (by decide) (by decide) | exact congrFun (eo 49 (by decide) (by decide)) _) (by first | exact eo _ (by decide) (by decide) | exact congrFun (eo 49 (by decide) (by decide)) _) (by first | exact eo _ (by decide) (by decide) | exact congrFun (eo 49 (by decide) (by decide)) _), a1, G.WT.fr (by first | exact eo _ (by decide) (by decide) | exact congrFun (eo 49 (by decide) (by decide)) _) (by first | exact eo _ (by decide) (by decide) | exact congrFun (eo 49 (by decide) (by decide)) _) (by first | exact eo _ (by decide) (by decide) | exact congrFun (eo 49 (by decide) (by decide)) _) (by first | exact eo _ (by decide) (by decide) | exact congrFun (eo 49 (by decide) (by decide)) _) (by first | exact eo _ (by decide) (by decide) | exact congrFun (eo 49 (by decide) (by decide)) _) (by first | exact eo _ (by decide) (by decide) | exact congrFun (eo 49 (by decide) (by decide)) _), G.WS.fr (by first | exact eo _ (by decide) (by decide) | exact congrFun (eo 49 (by decide) (by decide)) _) (by first | exact eo _ (by decide) (by decide) | exact congrFun (eo 49 (by decide) (by decide)) _) (by first | exact eo _ (by decide) (by decide) | exact congrFun (eo 49 (by decide) (by decide)) _), G.WV.fr (by first | exact eo _ (by decide) (by decide) | exact congrFun (eo 49 (by decide) (by decide)) _) (by first | exact eo _ (by decide) (by decide) | exact congrFun (eo 49 (by decide) (by decide)) _), G.WH.fr (by first | exact eo _ (by decide) (by decide) | exact congrFun (eo 49 (by decide) (by decide)) _) (by first | exact eo _ (by decide) (by decide) | exact congrFun (eo 49 (by decide) (by decide)) _) (by first | exact eo _ (by decide) (by decide) | exact congrFun (eo 49 (by decide) (by decide)) _), G.WG.fr (by first | exact eo _ (by decide) (by decide) | exact congrFun (eo 49 (by decide) (by decide)) _), G.WK.fr (by first | exact eo _ (by decide) (by decide) | exact congrFun (eo 49 (by decide) (by decide)) _) (by first | exact eo _ (by decide) (by decide) | exact congrFun (eo 49 (by decide) (by decide)) _) (by first | exact eo _ (by decide) (by decide) | exact congrFun (eo 49 (by decide) (by decide)) _), G.WF1.fr (by first | exact eo _ (by decide) (by decide) | exact congrFun (eo 49 (by decide) (by decide)) _), G.WBy.fr (by first | exact eo _ (by decide) (by decide) | exact congrFun (eo 49 (by decide) (by decide)) _), G.WD.fr (by first | exact eo _ (by decide) (by decide) | exact congrFun (eo 49 (by decide) (by decide)) _) (by first | exact eo _ (by decide) (by decide) | exact congrFun (eo 49 (by decide) (by decide)) _) (by first | exact eo _ (by decide) (by decide) | exact congrFun (eo 49 (by decide) (by decide)) _) (by first | exact eo _ (by decide) (by decide) | exact congrFun (eo 49 (by decide) (by decide)) _) (by first | exact eo _ (by decide) (by decide) | exact congrFun (eo 49 (by decide) (by decide)) _) (by first | exact eo _ (by decide) (by decide) | exact congrFun (eo 49 (by decide) (by decide)) _) (by first | exact eo _ (by decide) (by decide) | exact congrFun (eo 49 (by decide) (by decide)) _), G.WWo.fr (by first | exact eo _ (by decide) (by decide) | exact congrFun (eo 49 (by decide) (by decide)) _) (by first | exact eo _ (by decide) (by decide) | exact congrFun (eo 49 (by decide) (by decide)) _) (by first | exact eo _ (by decide) (by decide) | exact congrFun (eo 49 (by decide) (by decide)) _) (by first | exact eo _ (by decide) (by decide) | exact congrFun (eo 49 (by decide) (by decide)) _) (by first | exact eo _ (by decide) (by decide) | exact congrFun (eo 49 (by decide) (by decide)) _) (by first | exact eo _ (by decide) (by decide) | exact congrFun (eo 49 (by decide) (by decide)) _), z1⟩
      · exact G
  · rw [if_neg z]; exact G
theorem kp_tell (G : WF w P) (t l v : Int32) : WF (s_tell w t l v).2 P := by
  unfold s_tell
  by_cases z : isThing_ w t = true ∧ (0 ≤ l ∧ l < nI (nL w)) ∧ (0 ≤ v ∧ v ≤ 1) ∧ ¬ hI w 65 l.toNatClampNeg = 0
  · rw [if_pos z]
    obtain ⟨z1, zl, zv, -⟩ := z
    obtain ⟨i, hi, rfl, hk⟩ := isThing_ex G.WN z1
    have n150 := G.WN.n150
    have l300 := G.WN.l300
    obtain ⟨y, hy, rfl⟩ := nI_in0 zl.1 (n := nL w) (by omega) zl.2
    rw [nI_clamp (show i < 2 ^ 31 by omega)]
    split
    · exact G
    · next h12 =>
      obtain ⟨k, k12, ek, ea⟩ := G.WT i hi hk
      have k11 : k < 12 := by
        rw [ek, show (12 : Int32) = nI 12 from rfl, nI_eq (by omega) (by omega)] at h12
        omega
      have ek1 : nI k + 1 = nI (k + 1) := nI_add _ 1
      rw [ek, ek1, nI_clamp (show k < 2 ^ 31 by omega)]
      have v01 : v = 0 ∨ v = 1 := by grind
      have e87 : ∀ j, hI (wI (wI (wI w 87 (12 * i + k) (nI y)) 88 (12 * i + k) v) 86 i (nI (k + 1))) 87 j = if j = 12 * i + k then nI y else hI w 87 j := fun j => by rw [q_ne (by decide), q_ne (by decide), q_II]; simp
      have e88 : ∀ j, hI (wI (wI (wI w 87 (12 * i + k) (nI y)) 88 (12 * i + k) v) 86 i (nI (k + 1))) 88 j = if j = 12 * i + k then v else hI w 88 j := fun j => by rw [q_ne (by decide), q_II, q_ne (by decide)]; simp
      have e86 : ∀ j, hI (wI (wI (wI w 87 (12 * i + k) (nI y)) 88 (12 * i + k) v) 86 i (nI (k + 1))) 86 j = if j = i then nI (k + 1) else hI w 86 j := fun j => by rw [q_II, q_ne (by decide), q_ne (by decide)]; simp
      have eo : ∀ a, a ≠ 86 → a ≠ 87 → a ≠ 88 → hI (wI (wI (wI w 87 (12 * i + k) (nI y)) 88 (12 * i + k) v) 86 i (nI (k + 1))) a = hI w a := fun a h1 h2 h3 => by rw [q_ne h1, q_ne h3, q_ne h2]
      generalize wI (wI (wI w 87 (12 * i + k) (nI y)) 88 (12 * i + k) v) 86 i (nI (k + 1)) = w1 at *
      have eB : nB w1 = nB w := by unfold nB; rw [eo 49 (by decide) (by decide) (by decide)]
      have eL : nL w1 = nL w := by unfold nL; rw [eo 49 (by decide) (by decide) (by decide)]
      have t1 : WT w1 := by
        intro b hb hkb
        rw [eB] at hb
        rw [eo 51 (by decide) (by decide) (by decide)] at hkb
        rw [e86]
        simp only [e87, e88, eL]
        by_cases q : b = i
        · rw [if_pos q]
          refine ⟨k + 1, by omega, rfl, fun j hj => ?_⟩
          by_cases q2 : j = k
          · rw [if_pos (by omega), if_pos (by omega)]; exact ⟨⟨y, hy, rfl⟩, v01⟩
          · rw [if_neg (by omega), if_neg (by omega), q]; exact ea j (by omega)
        · rw [if_neg q]
          obtain ⟨x, x8, ex, xa⟩ := G.WT b hb hkb
          refine ⟨x, x8, ex, fun j hj => ?_⟩
          rw [if_neg (by omega), if_neg (by omega)]; exact xa j hj
      have z1 : WZr w1 := by
        intro b hb
        rw [eB] at hb
        rw [e86, if_neg (by omega), eo 89 (by decide) (by decide) (by decide), eo 80 (by decide) (by decide) (by decide)]
        exact G.WZr b hb
      exact ⟨G.WN.fr (by first | exact eo _ (by decide) (by decide) (by decide) | exact congrFun (eo 49 (by decide) (by decide) (by decide)) _) (by first | exact eo _ (by decide) (by decide) (by decide) | exact congrFun (eo 49 (by decide) (by decide) (by decide)) _) (by first | exact eo _ (by decide) (by decide) (by decide) | exact congrFun (eo 49 (by decide) (by decide) (by decide)) _) (by first | exact eo _ (by decide) (by decide) (by decide) | exact congrFun (eo 49 (by decide) (by decide) (by decide)) _) (by first | exact eo _ (by decide) (by decide) (by decide) | exact congrFun (eo 49 (by decide) (by decide) (by decide)) _) (by first | exact eo _ (by decide) (by decide) (by decide) | exact congrFun (eo 49 (by decide) (by decide) (by decide)) _) (by first | exact eo _ (by decide) (by decide) (by decide) | exact congrFun (eo 49 (by decide) (by decide) (by decide)) _) (by first | exact eo _ (by decide) (by decide) (by decide) | exact congrFun (eo 49 (by decide) (by decide) (by decide)) _), G.WB.fr (by first | exact eo _ (by decide) (by decide) (by decide) | exact congrFun (eo 49 (by decide) (by decide) (by decide)) _) (by first | exact eo _ (by decide) (by decide) (by decide) | exact congrFun (eo 49 (by decide) (by decide) (by decide)) _) (by first | exact eo _ (by decide) (by decide) (by decide) | exact congrFun (eo 49 (by decide) (by decide) (by decide)) _) (by first | exact eo _ (by decide) (by decide) (by decide) | exact congrFun (eo 49 (by decide) (by decide) (by decide)) _) (by first | exact eo _ (by decide) (by decide) (by decide) | exact congrFun (eo 49 (by decide) (by decide) (by decide)) _) (by first | exact eo _ (by decide) (by decide) (by decide) | exact congrFun (eo 49 (by decide) (by decide) (by decide)) _), G.WM.fr (by first | exact eo _ (by decide) (by decide) (by decide) | exact congrFun (eo 49 (by decide) (by decide) (by decide)) _) (by first | exact eo _ (by decide) (by decide) (by decide) | exact congrFun (eo 49 (by decide) (by decide) (by decide)) _) (by first | exact eo _ (by decide) (by decide) (by decide) | exact congrFun (eo 49 (by decide) (by decide) (by decide)) _) (by first | exact eo _ (by decide) (by decide) (by decide) | exact congrFun (eo 49 (by decide) (by decide) (by decide)) _) (by first | exact eo _ (by decide) (by decide) (by decide) | exact congrFun (eo 49 (by decide) (by decide) (by decide)) _), G.WL.fr (by first | exact eo _ (by decide) (by decide) (by decide) | exact congrFun (eo 49 (by decide) (by decide) (by decide)) _) (by first | exact eo _ (by decide) (by decide) (by decide) | exact congrFun (eo 49 (by decide) (by decide) (by decide)) _) (by first | exact eo _ (by decide) (by decide) (by decide) | exact congrFun (eo 49 (by decide) (by decide) (by decide)) _) (by first | exact eo _ (by decide) (by decide) (by decide) | exact congrFun (eo 49 (by decide) (by decide) (by decide)) _) (by first | exact eo _ (by decide) (by decide) (by decide) | exact congrFun (eo 49 (by decide) (by decide) (by decide)) _) (by first | exact eo _ (by decide) (by decide) (by decide) | exact congrFun (eo 49 (by decide) (by decide) (by decide)) _) (by first | exact eo _ (by decide) (by decide) (by decide) | exact congrFun (eo 49 (by decide) (by decide) (by decide)) _), G.WP.fr (by first | exact eo _ (by decide) (by decide) (by decide) | exact congrFun (eo 49 (by decide) (by decide) (by decide)) _) (by first | exact eo _ (by decide) (by decide) (by decide) | exact congrFun (eo 49 (by decide) (by decide) (by decide)) _) (by first | exact eo _ (by decide) (by decide) (by decide) | exact congrFun (eo 49 (by decide) (by decide) (by decide)) _) (by first | exact eo _ (by decide) (by decide) (by decide) | exact congrFun (eo 49 (by decide) (by decide) (by decide)) _), G.WA.fr (by first | exact eo _ (by decide) (by decide) (by decide) | exact congrFun (eo 49 (by decide) (by decide) (by decide)) _) (by first | exact eo _ (by decide) (by decide) (by decide) | exact congrFun (eo 49 (by decide) (by decide) (by decide)) _) (by first | exact eo _ (by decide) (by decide) (by decide) | exact congrFun (eo 49 (by decide) (by decide) (by decide)) _) (by first | exact eo _ (by decide) (by decide) (by decide) | exact congrFun (eo 49 (by decide) (by decide) (by decide)) _), t1, G.WS.fr (by first | exact eo _ (by decide) (by decide) (by decide) | exact congrFun (eo 49 (by decide) (by decide) (by decide)) _) (by first | exact eo _ (by decide) (by decide) (by decide) | exact congrFun (eo 49 (by decide) (by decide) (by decide)) _) (by first | exact eo _ (by decide) (by decide) (by decide) | exact congrFun (eo 49 (by decide) (by decide) (by decide)) _), G.WV.fr (by first | exact eo _ (by decide) (by decide) (by decide) | exact congrFun (eo 49 (by decide) (by decide) (by decide)) _) (by first | exact eo _ (by decide) (by decide) (by decide) | exact congrFun (eo 49 (by decide) (by decide) (by decide)) _), G.WH.fr (by first | exact eo _ (by decide) (by decide) (by decide) | exact congrFun (eo 49 (by decide) (by decide) (by decide)) _) (by first | exact eo _ (by decide) (by decide) (by decide) | exact congrFun (eo 49 (by decide) (by decide) (by decide)) _) (by first | exact eo _ (by decide) (by decide) (by decide) | exact congrFun (eo 49 (by decide) (by decide) (by decide)) _), G.WG.fr (by first | exact eo _ (by decide) (by decide) (by decide) | exact congrFun (eo 49 (by decide) (by decide) (by decide)) _), G.WK.fr (by first | exact eo _ (by decide) (by decide) (by decide) | exact congrFun (eo 49 (by decide) (by decide) (by decide)) _) (by first | exact eo _ (by decide) (by decide) (by decide) | exact congrFun (eo 49 (by decide) (by decide) (by decide)) _) (by first | exact eo _ (by decide) (by decide) (by decide) | exact congrFun (eo 49 (by decide) (by decide) (by decide)) _), G.WF1.fr (by first | exact eo _ (by decide) (by decide) (by decide) | exact congrFun (eo 49 (by decide) (by decide) (by decide)) _), G.WBy.fr (by first | exact eo _ (by decide) (by decide) (by decide) | exact congrFun (eo 49 (by decide) (by decide) (by decide)) _), G.WD.fr (by first | exact eo _ (by decide) (by decide) (by decide) | exact congrFun (eo 49 (by decide) (by decide) (by decide)) _) (by first | exact eo _ (by decide) (by decide) (by decide) | exact congrFun (eo 49 (by decide) (by decide) (by decide)) _) (by first | exact eo _ (by decide) (by decide) (by decide) | exact congrFun (eo 49 (by decide) (by decide) (by decide)) _) (by first | exact eo _ (by decide) (by decide) (by decide) | exact congrFun (eo 49 (by decide) (by decide) (by decide)) _) (by first | exact eo _ (by decide) (by decide) (by decide) | exact congrFun (eo 49 (by decide) (by decide) (by decide)) _) (by first | exact eo _ (by decide) (by decide) (by decide) | exact congrFun (eo 49 (by decide) (by decide) (by decide)) _) (by first | exact eo _ (by decide) (by decide) (by decide) | exact congrFun (eo 49 (by decide) (by decide) (by decide)) _), G.WWo.fr (by first | exact eo _ (by decide) (by decide) (by decide) | exact congrFun (eo 49 (by decide) (by decide) (by decide)) _) (by first | exact eo _ (by decide) (by decide) (by decide) | exact congrFun (eo 49 (by decide) (by decide) (by decide)) _) (by first | exact eo _ (by decide) (by decide) (by decide) | exact congrFun (eo 49 (by decide) (by decide) (by decide)) _) (by first | exact eo _ (by decide) (by decide) (by decide) | exact congrFun (eo 49 (by decide) (by decide) (by decide)) _) (by first | exact eo _ (by decide) (by decide) (by decide) | exact congrFun (eo 49 (by decide) (by decide) (by decide)) _) (by first | exact eo _ (by decide) (by decide) (by decide) | exact congrFun (eo 49 (by decide) (by decide) (by decide)) _), z1⟩
  · rw [if_neg z]; exact G
theorem papd_66 (w : AH) (b s i m : Nat) {x : Nat} (h : x ≠ b) : hI (papd w b s i m) 66 x = hI w 66 x := by
  induction m with
  | zero => exact q_atne h
  | succ m ih => unfold papd; rw [q_atne h, q_ne (by decide)]; exact ih
theorem papd_67 (w : AH) (b s i m x : Nat) : hI (papd w b s i m) 67 x = if 40 * b ≤ x ∧ x < 40 * b + m then (hL w 105 (60 * s + (i + (x - 40 * b)))).toInt32 else hI w 67 x := by
  induction m with
  | zero =>
    rw [if_neg (by omega)]
    exact congrFun (q_ne (by decide)) x
  | succ m ih =>
    unfold papd
    rw [q_ne (by decide), q_II]
    by_cases q : x = 40 * b + m
    · rw [if_pos ⟨rfl, q⟩, if_pos (by omega), show x - 40 * b = m by omega]
    · rw [if_neg (fun y => q y.2), ih]
      by_cases r : 40 * b ≤ x ∧ x < 40 * b + m
      · rw [if_pos r, if_pos (by omega)]
      · rw [if_neg r, if_neg (by omega)]
theorem kp_paper (G : WF w P) (a c i k : Int32) : WF (s_paper w a c i k).2 P := by
  unfold s_paper
  by_cases z : isBox_ w a = true ∧ isShelf_ c = true ∧ 1 ≤ k ∧ k ≤ 40
  · rw [if_pos z]
    split
    · obtain ⟨b, hb, rfl, hk⟩ := isBox_ex G.WN z.1
      have n150 := G.WN.n150
      rw [nI_clamp (show b < 2 ^ 31 by omega)]
      have m40 : runN (nameOk w c.toNatClampNeg i) k.toNatClampNeg ≤ 40 := by
        have := runN_le (nameOk w c.toNatClampNeg i) k.toNatClampNeg
        obtain ⟨x, hx, e⟩ := nI_in0 (show 0 ≤ k by grind) (n := 41) (by omega) (by have : nI 41 = 41 := rfl; grind)
        rw [e, nI_clamp (by omega)] at this
        rw [e, nI_clamp (by omega)]
        omega
      have nm : ∀ j, j < runN (nameOk w c.toNatClampNeg i) k.toNatClampNeg → isFinder_ w (hL w 105 (60 * c.toNatClampNeg + (i.toNatClampNeg + j))).toInt32 = true := fun j hj => by
        have := runN_p hj
        unfold nameOk at this
        exact (Bool.and_eq_true_iff.mp this).2
      generalize runN (nameOk w c.toNatClampNeg i) k.toNatClampNeg = m at *
      have e66 := papd_n w b c.toNatClampNeg i.toNatClampNeg m
      have e66' : ∀ x, x ≠ b → _ := fun x hx => papd_66 w b c.toNatClampNeg i.toNatClampNeg m hx
      have e67 := papd_67 w b c.toNatClampNeg i.toNatClampNeg m
      have eo : ∀ a, a ≠ 66 → a ≠ 67 → hI (papd w b c.toNatClampNeg i.toNatClampNeg m) a = hI w a := fun a h1 h2 => papd_I w b _ _ m h1 h2
      show WF (papd w b c.toNatClampNeg i.toNatClampNeg m) P
      generalize papd w b c.toNatClampNeg i.toNatClampNeg m = w1 at *
      have eB : nB w1 = nB w := by unfold nB; rw [eo 49 (by decide) (by decide)]
      have p1 : WP w1 := by
        intro x hx hkx
        rw [eB] at hx
        rw [eo 51 (by decide) (by decide)] at hkx
        simp only [eB, e67]
        by_cases q : x = b
        · rw [q, e66]
          refine Or.inr ⟨m, m40, rfl, fun j hj => ?_⟩
          rw [if_pos (by omega), show 40 * b + j - 40 * b = j by omega]
          obtain ⟨f, hf, e, -⟩ := isFinder_ex G.WN (nm j hj)
          exact ⟨f, hf, e⟩
        · rw [e66' x q]
          rcases G.WP x hx hkx with e | ⟨y, y40, e, ya⟩
          · exact Or.inl e
          · refine Or.inr ⟨y, y40, e, fun j hj => ?_⟩
            rw [if_neg (by omega)]; exact ya j hj
      exact ⟨G.WN.fr (by first | exact eo _ (by decide) (by decide) | exact congrFun (eo 49 (by decide) (by decide)) _) (by first | exact eo _ (by decide) (by decide) | exact congrFun (eo 49 (by decide) (by decide)) _) (by first | exact eo _ (by decide) (by decide) | exact congrFun (eo 49 (by decide) (by decide)) _) (by first | exact eo _ (by decide) (by decide) | exact congrFun (eo 49 (by decide) (by decide)) _) (by first | exact eo _ (by decide) (by decide) | exact congrFun (eo 49 (by decide) (by decide)) _) (by first | exact eo _ (by decide) (by decide) | exact congrFun (eo 49 (by decide) (by decide)) _) (by first | exact eo _ (by decide) (by decide) | exact congrFun (eo 49 (by decide) (by decide)) _) (by first | exact eo _ (by decide) (by decide) | exact congrFun (eo 49 (by decide) (by decide)) _), G.WB.fr (by first | exact eo _ (by decide) (by decide) | exact congrFun (eo 49 (by decide) (by decide)) _) (by first | exact eo _ (by decide) (by decide) | exact congrFun (eo 49 (by decide) (by decide)) _) (by first | exact eo _ (by decide) (by decide) | exact congrFun (eo 49 (by decide) (by decide)) _) (by first | exact eo _ (by decide) (by decide) | exact congrFun (eo 49 (by decide) (by decide)) _) (by first | exact eo _ (by decide) (by decide) | exact congrFun (eo 49 (by decide) (by decide)) _) (by first | exact eo _ (by decide) (by decide) | exact congrFun (eo 49 (by decide) (by decide)) _), G.WM.fr (by first | exact eo _ (by decide) (by decide) | exact congrFun (eo 49 (by decide) (by decide)) _) (by first | exact eo _ (by decide) (by decide) | exact congrFun (eo 49 (by decide) (by decide)) _) (by first | exact eo _ (by decide) (by decide) | exact congrFun (eo 49 (by decide) (by decide)) _) (by first | exact eo _ (by decide) (by decide) | exact congrFun (eo 49 (by decide) (by decide)) _) (by first | exact eo _ (by decide) (by decide) | exact congrFun (eo 49 (by decide) (by decide)) _), G.WL.fr (by first | exact eo _ (by decide) (by decide) | exact congrFun (eo 49 (by decide) (by decide)) _) (by first | exact eo _ (by decide) (by decide) | exact congrFun (eo 49 (by decide) (by decide)) _) (by first | exact eo _ (by decide) (by decide) | exact congrFun (eo 49 (by decide) (by decide)) _) (by first | exact eo _ (by decide) (by decide) | exact congrFun (eo 49 (by decide) (by decide)) _) (by first | exact eo _ (by decide) (by decide) | exact congrFun (eo 49 (by decide) (by decide)) _) (by first | exact eo _ (by decide) (by decide) | exact congrFun (eo 49 (by decide) (by decide)) _) (by first | exact eo _ (by decide) (by decide) | exact congrFun (eo 49 (by decide) (by decide)) _), p1, G.WA.fr (by first | exact eo _ (by decide) (by decide) | exact congrFun (eo 49 (by decide) (by decide)) _) (by first | exact eo _ (by decide) (by decide) | exact congrFun (eo 49 (by decide) (by decide)) _) (by first | exact eo _ (by decide) (by decide) | exact congrFun (eo 49 (by decide) (by decide)) _) (by first | exact eo _ (by decide) (by decide) | exact congrFun (eo 49 (by decide) (by decide)) _), G.WT.fr (by first | exact eo _ (by decide) (by decide) | exact congrFun (eo 49 (by decide) (by decide)) _) (by first | exact eo _ (by decide) (by decide) | exact congrFun (eo 49 (by decide) (by decide)) _) (by first | exact eo _ (by decide) (by decide) | exact congrFun (eo 49 (by decide) (by decide)) _) (by first | exact eo _ (by decide) (by decide) | exact congrFun (eo 49 (by decide) (by decide)) _) (by first | exact eo _ (by decide) (by decide) | exact congrFun (eo 49 (by decide) (by decide)) _) (by first | exact eo _ (by decide) (by decide) | exact congrFun (eo 49 (by decide) (by decide)) _), G.WS.fr (by first | exact eo _ (by decide) (by decide) | exact congrFun (eo 49 (by decide) (by decide)) _) (by first | exact eo _ (by decide) (by decide) | exact congrFun (eo 49 (by decide) (by decide)) _) (by first | exact eo _ (by decide) (by decide) | exact congrFun (eo 49 (by decide) (by decide)) _), G.WV.fr (by first | exact eo _ (by decide) (by decide) | exact congrFun (eo 49 (by decide) (by decide)) _) (by first | exact eo _ (by decide) (by decide) | exact congrFun (eo 49 (by decide) (by decide)) _), G.WH.fr (by first | exact eo _ (by decide) (by decide) | exact congrFun (eo 49 (by decide) (by decide)) _) (by first | exact eo _ (by decide) (by decide) | exact congrFun (eo 49 (by decide) (by decide)) _) (by first | exact eo _ (by decide) (by decide) | exact congrFun (eo 49 (by decide) (by decide)) _), G.WG.fr (by first | exact eo _ (by decide) (by decide) | exact congrFun (eo 49 (by decide) (by decide)) _), G.WK.fr (by first | exact eo _ (by decide) (by decide) | exact congrFun (eo 49 (by decide) (by decide)) _) (by first | exact eo _ (by decide) (by decide) | exact congrFun (eo 49 (by decide) (by decide)) _) (by first | exact eo _ (by decide) (by decide) | exact congrFun (eo 49 (by decide) (by decide)) _), G.WF1.fr (by first | exact eo _ (by decide) (by decide) | exact congrFun (eo 49 (by decide) (by decide)) _), G.WBy.fr (by first | exact eo _ (by decide) (by decide) | exact congrFun (eo 49 (by decide) (by decide)) _), G.WD.fr (by first | exact eo _ (by decide) (by decide) | exact congrFun (eo 49 (by decide) (by decide)) _) (by first | exact eo _ (by decide) (by decide) | exact congrFun (eo 49 (by decide) (by decide)) _) (by first | exact eo _ (by decide) (by decide) | exact congrFun (eo 49 (by decide) (by decide)) _) (by first | exact eo _ (by decide) (by decide) | exact congrFun (eo 49 (by decide) (by decide)) _) (by first | exact eo _ (by decide) (by decide) | exact congrFun (eo 49 (by decide) (by decide)) _) (by first | exact eo _ (by decide) (by decide) | exact congrFun (eo 49 (by decide) (by decide)) _) (by first | exact eo _ (by decide) (by decide) | exact congrFun (eo 49 (by decide) (by decide)) _), G.WWo.fr (by first | exact eo _ (by decide) (by decide) | exact congrFun (eo 49 (by decide) (by decide)) _) (by first | exact eo _ (by decide) (by decide) | exact congrFun (eo 49 (by decide) (by decide)) _) (by first | exact eo _ (by decide) (by decide) | exact congrFun (eo 49 (by decide) (by decide)) _) (by first | exact eo _ (by decide) (by decide) | exact congrFun (eo 49 (by decide) (by decide)) _) (by first | exact eo _ (by decide) (by decide) | exact congrFun (eo 49 (by decide) (by decide)) _) (by first | exact eo _ (by decide) (by decide) | exact congrFun (eo 49 (by decide) (by decide)) _), G.WZr.fr (by first | exact eo _ (by decide) (by decide) | exact congrFun (eo 49 (by decide) (by decide)) _) (by first | exact eo _ (by decide) (by decide) | exact congrFun (eo 49 (by decide) (by decide)) _) (by first | exact eo _ (by decide) (by decide) | exact congrFun (eo 49 (by decide) (by decide)) _) (by first | exact eo _ (by decide) (by decide) | exact congrFun (eo 49 (by decide) (by decide)) _)⟩
    · exact G
  · rw [if_neg z]; exact G
theorem kp_lookAt (G : WF w P) (a g : Int32) : WF (s_lookAt w a g).2 P := by
  unfold s_lookAt
  by_cases z : isBox_ w a = true ∧ 0 ≤ g ∧ g ≤ 1
  · rw [if_pos z]
    split
    · obtain ⟨b, hb, rfl, hk⟩ := isBox_ex G.WN z.1
      have n150 := G.WN.n150
      rw [nI_clamp (show b < 2 ^ 31 by omega)]
      have k1 : WK (wI w 98 b (g + 1)) := by
        intro x
        rw [q_ne (by decide) (a := 98) (b := 51), q_II]
        have eB : nB (wI w 98 b (g + 1)) = nB w := rfl
        rw [eB]
        by_cases q : x = b
        · rw [if_pos ⟨rfl, q⟩]
          refine ⟨by grind, fun h => absurd ⟨by omega, by rw [q]; exact hk⟩ h⟩
        · rw [if_neg (fun y => q y.2)]; exact G.WK x
      exact ⟨G.WN.fr (by simp (config := {maxSteps := 5000000}) (disch := omega) only [q_ne, q_atne]) (by simp (config := {maxSteps := 5000000}) (disch := omega) only [q_ne, q_atne]) (by simp (config := {maxSteps := 5000000}) (disch := omega) only [q_ne, q_atne]) (by simp (config := {maxSteps := 5000000}) (disch := omega) only [q_ne, q_atne]) (by simp (config := {maxSteps := 5000000}) (disch := omega) only [q_ne, q_atne]) (by simp (config := {maxSteps := 5000000}) (disch := omega) only [q_ne, q_atne]) (by simp (config := {maxSteps := 5000000}) (disch := omega) only [q_ne, q_atne]) (by simp (config := {maxSteps := 5000000}) (disch := omega) only [q_ne, q_atne]), G.WB.fr (by simp (config := {maxSteps := 5000000}) (disch := omega) only [q_ne, q_atne]) (by simp (config := {maxSteps := 5000000}) (disch := omega) only [q_ne, q_atne]) (by simp (config := {maxSteps := 5000000}) (disch := omega) only [q_ne, q_atne]) (by simp (config := {maxSteps := 5000000}) (disch := omega) only [q_ne, q_atne]) (by simp (config := {maxSteps := 5000000}) (disch := omega) only [q_ne, q_atne]) (by simp (config := {maxSteps := 5000000}) (disch := omega) only [q_ne, q_atne]), G.WM.fr (by simp (config := {maxSteps := 5000000}) (disch := omega) only [q_ne, q_atne]) (by simp (config := {maxSteps := 5000000}) (disch := omega) only [q_ne, q_atne]) (by simp (config := {maxSteps := 5000000}) (disch := omega) only [q_ne, q_atne]) (by simp (config := {maxSteps := 5000000}) (disch := omega) only [q_ne, q_atne]) (by simp (config := {maxSteps := 5000000}) (disch := omega) only [q_ne, q_atne]), G.WL.fr (by simp (config := {maxSteps := 5000000}) (disch := omega) only [q_ne, q_atne]) (by simp (config := {maxSteps := 5000000}) (disch := omega) only [q_ne, q_atne]) (by simp (config := {maxSteps := 5000000}) (disch := omega) only [q_ne, q_atne]) (by simp (config := {maxSteps := 5000000}) (disch := omega) only [q_ne, q_atne]) (by simp (config := {maxSteps := 5000000}) (disch := omega) only [q_ne, q_atne]) (by simp (config := {maxSteps := 5000000}) (disch := omega) only [q_ne, q_atne]) (by simp (config := {maxSteps := 5000000}) (disch := omega) only [q_ne, q_atne]), G.WP.fr (by simp (config := {maxSteps := 5000000}) (disch := omega) only [q_ne, q_atne]) (by simp (config := {maxSteps := 5000000}) (disch := omega) only [q_ne, q_atne]) (by simp (config := {maxSteps := 5000000}) (disch := omega) only [q_ne, q_atne]) (by simp (config := {maxSteps := 5000000}) (disch := omega) only [q_ne, q_atne]), G.WA.fr (by simp (config := {maxSteps := 5000000}) (disch := omega) only [q_ne, q_atne]) (by simp (config := {maxSteps := 5000000}) (disch := omega) only [q_ne, q_atne]) (by simp (config := {maxSteps := 5000000}) (disch := omega) only [q_ne, q_atne]) (by simp (config := {maxSteps := 5000000}) (disch := omega) only [q_ne, q_atne]), G.WT.fr (by simp (config := {maxSteps := 5000000}) (disch := omega) only [q_ne, q_atne]) (by simp (config := {maxSteps := 5000000}) (disch := omega) only [q_ne, q_atne]) (by simp (config := {maxSteps := 5000000}) (disch := omega) only [q_ne, q_atne]) (by simp (config := {maxSteps := 5000000}) (disch := omega) only [q_ne, q_atne]) (by simp (config := {maxSteps := 5000000}) (disch := omega) only [q_ne, q_atne]) (by simp (config := {maxSteps := 5000000}) (disch := omega) only [q_ne, q_atne]), G.WS.fr (by simp (config := {maxSteps := 5000000}) (disch := omega) only [q_ne, q_atne]) (by simp (config := {maxSteps := 5000000}) (disch := omega) only [q_ne, q_atne]) (by simp (config := {maxSteps := 5000000}) (disch := omega) only [q_ne, q_atne]), G.WV.fr (by simp (config := {maxSteps := 5000000}) (disch := omega) only [q_ne, q_atne]) (by simp (config := {maxSteps := 5000000}) (disch := omega) only [q_ne, q_atne]), G.WH.fr (by simp (config := {maxSteps := 5000000}) (disch := omega) only [q_ne, q_atne]) (by simp (config := {maxSteps := 5000000}) (disch := omega) only [q_ne, q_atne]) (by simp (config := {maxSteps := 5000000}) (disch := omega) only [q_ne, q_atne]), G.WG.fr (by simp (config := {maxSteps := 5000000}) (disch := omega) only [q_ne, q_atne]), k1, G.WF1.fr (by simp (config := {maxSteps := 5000000}) (disch := omega) only [q_ne, q_atne]), G.WBy.fr (by simp (config := {maxSteps := 5000000}) (disch := omega) only [q_ne, q_atne]), G.WD.fr (by simp (config := {maxSteps := 5000000}) (disch := omega) only [q_ne, q_atne]) (by simp (config := {maxSteps := 5000000}) (disch := omega) only [q_ne, q_atne]) (by simp (config := {maxSteps := 5000000}) (disch := omega) only [q_ne, q_atne]) (by simp (config := {maxSteps := 5000000}) (disch := omega) only [q_ne, q_atne]) (by simp (config := {maxSteps := 5000000}) (disch := omega) only [q_ne, q_atne]) (by simp (config := {maxSteps := 5000000}) (disch := omega) only [q_ne, q_atne]) (by simp (config := {maxSteps := 5000000}) (disch := omega) only [q_ne, q_atne]), G.WWo.fr (by simp (config := {maxSteps := 5000000}) (disch := omega) only [q_ne, q_atne]) (by simp (config := {maxSteps := 5000000}) (disch := omega) only [q_ne, q_atne]) (by simp (config := {maxSteps := 5000000}) (disch := omega) only [q_ne, q_atne]) (by simp (config := {maxSteps := 5000000}) (disch := omega) only [q_ne, q_atne]) (by simp (config := {maxSteps := 5000000}) (disch := omega) only [q_ne, q_atne]) (by simp (config := {maxSteps := 5000000}) (disch := omega) only [q_ne, q_atne]), G.WZr.fr (by simp (config := {maxSteps := 5000000}) (disch := omega) only [q_ne, q_atne]) (by simp (config := {maxSteps := 5000000}) (disch := omega) only [q_ne, q_atne]) (by simp (config := {maxSteps := 5000000}) (disch := omega) only [q_ne, q_atne]) (by simp (config := {maxSteps := 5000000}) (disch := omega) only [q_ne, q_atne])⟩
    · exact G
  · rw [if_neg z]; exact G
theorem kp_log (G : WF w P) (f b t v : Int32) : WF (s_log w f b t v).2 P := by
  unfold s_log
  by_cases z : isFinder_ w f = true ∧ isBox_ w b = true ∧ (0 ≤ t ∧ t < 24 * (hI w 49 1 + 1)) ∧ 0 ≤ v ∧ v ≤ 1
  · rw [if_pos z]
    obtain ⟨z1, z2, z3, z4⟩ := z
    obtain ⟨fi, hf, rfl, kf⟩ := isFinder_ex G.WN z1
    obtain ⟨bi, hb, rfl, kb⟩ := isBox_ex G.WN z2
    have l300 := G.WN.l300
    have d := G.WN.d
    split
    · exact G
    · next h300 =>
      have eL := logd_L G.WN (nI fi) (nI bi) t v
      have at_ := logd_at w (nI fi) (nI bi) t v
      have eo : ∀ a, a ≠ 49 → a ≠ 62 → a ≠ 63 → a ≠ 64 → a ≠ 65 → hI (logd w (nI fi) (nI bi) t v) a = hI w a := fun a h1 h2 h3 h4 h5 => by unfold logd; rw [q_ne h1, q_ne h5, q_ne h4, q_ne h3, q_ne h2]
      have e49 : ∀ k, k ≠ 17 → hI (logd w (nI fi) (nI bi) t v) 49 k = hI w 49 k := fun k h => by unfold logd; rw [q_atne h, q_ne (by decide), q_ne (by decide), q_ne (by decide), q_ne (by decide)]
      have e17 : hI (logd w (nI fi) (nI bi) t v) 49 17 = nI (nL w + 1) := q_at
      show WF (logd w (nI fi) (nI bi) t v) P
      generalize logd w (nI fi) (nI bi) t v = w1 at *
      have eB : nB w1 = nB w := by unfold nB; rw [e49 3 (by decide)]
      have n1 : WN w1 := G.WN.fr2 (G.WN.same (e49 3 (by decide)) (eo 51 (by decide) (by decide) (by decide) (by decide) (by decide))) (Or.inl (e49 13 (by decide))) (Or.inr ⟨nL w + 1, by omega, e17⟩) (Or.inl (e49 33 (by decide))) (Or.inl (e49 11 (by decide))) (Or.inl (e49 65 (by decide))) (Or.inl (e49 1 (by decide)))
      have l1 : WL w1 := by
        intro l hl
        rw [eL] at hl
        obtain ⟨a1, a2, a3, a4⟩ := at_ l
        rw [eB, eo 51 (by decide) (by decide) (by decide) (by decide) (by decide), a1, a2, a3, a4]
        by_cases q : l = nL w
        · rw [if_pos q, if_pos q, if_pos q, if_pos q]
          exact ⟨⟨fi, hf, rfl, kf⟩, ⟨bi, hb, rfl, kb⟩, by grind, z3.1, by grind⟩
        · rw [if_neg q, if_neg q, if_neg q, if_neg q]; exact G.WL l (by omega)
      have t1 : WT w1 := by
        intro b hb hkb
        rw [eB] at hb
        rw [eo 51 (by decide) (by decide) (by decide) (by decide) (by decide)] at hkb
        rw [eo 86 (by decide) (by decide) (by decide) (by decide) (by decide), eo 87 (by decide) (by decide) (by decide) (by decide) (by decide), eo 88 (by decide) (by decide) (by decide) (by decide) (by decide), eL]
        obtain ⟨x, x8, ex, xa⟩ := G.WT b hb hkb
        refine ⟨x, x8, ex, fun j hj => ?_⟩
        obtain ⟨⟨l, hl, el⟩, q⟩ := xa j hj
        exact ⟨⟨l, by omega, el⟩, q⟩
      exact ⟨n1, G.WB.fr (by first | exact eo _ (by decide) (by decide) (by decide) (by decide) (by decide) | exact e49 _ (by decide)) (by first | exact eo _ (by decide) (by decide) (by decide) (by decide) (by decide) | exact e49 _ (by decide)) (by first | exact eo _ (by decide) (by decide) (by decide) (by decide) (by decide) | exact e49 _ (by decide)) (by first | exact eo _ (by decide) (by decide) (by decide) (by decide) (by decide) | exact e49 _ (by decide)) (by first | exact eo _ (by decide) (by decide) (by decide) (by decide) (by decide) | exact e49 _ (by decide)) (by first | exact eo _ (by decide) (by decide) (by decide) (by decide) (by decide) | exact e49 _ (by decide)), G.WM.fr (by first | exact eo _ (by decide) (by decide) (by decide) (by decide) (by decide) | exact e49 _ (by decide)) (by first | exact eo _ (by decide) (by decide) (by decide) (by decide) (by decide) | exact e49 _ (by decide)) (by first | exact eo _ (by decide) (by decide) (by decide) (by decide) (by decide) | exact e49 _ (by decide)) (by first | exact eo _ (by decide) (by decide) (by decide) (by decide) (by decide) | exact e49 _ (by decide)) (by first | exact eo _ (by decide) (by decide) (by decide) (by decide) (by decide) | exact e49 _ (by decide)), l1, G.WP.fr (by first | exact eo _ (by decide) (by decide) (by decide) (by decide) (by decide) | exact e49 _ (by decide)) (by first | exact eo _ (by decide) (by decide) (by decide) (by decide) (by decide) | exact e49 _ (by decide)) (by first | exact eo _ (by decide) (by decide) (by decide) (by decide) (by decide) | exact e49 _ (by decide)) (by first | exact eo _ (by decide) (by decide) (by decide) (by decide) (by decide) | exact e49 _ (by decide)), G.WA.fr (by first | exact eo _ (by decide) (by decide) (by decide) (by decide) (by decide) | exact e49 _ (by decide)) (by first | exact eo _ (by decide) (by decide) (by decide) (by decide) (by decide) | exact e49 _ (by decide)) (by first | exact eo _ (by decide) (by decide) (by decide) (by decide) (by decide) | exact e49 _ (by decide)) (by first | exact eo _ (by decide) (by decide) (by decide) (by decide) (by decide) | exact e49 _ (by decide)), t1, G.WS.fr (by first | exact eo _ (by decide) (by decide) (by decide) (by decide) (by decide) | exact e49 _ (by decide)) (by first | exact eo _ (by decide) (by decide) (by decide) (by decide) (by decide) | exact e49 _ (by decide)) (by first | exact eo _ (by decide) (by decide) (by decide) (by decide) (by decide) | exact e49 _ (by decide)), G.WV.fr (by first | exact eo _ (by decide) (by decide) (by decide) (by decide) (by decide) | exact e49 _ (by decide)) (by first | exact eo _ (by decide) (by decide) (by decide) (by decide) (by decide) | exact e49 _ (by decide)), G.WH.fr (by first | exact eo _ (by decide) (by decide) (by decide) (by decide) (by decide) | exact e49 _ (by decide)) (by first | exact eo _ (by decide) (by decide) (by decide) (by decide) (by decide) | exact e49 _ (by decide)) (by first | exact eo _ (by decide) (by decide) (by decide) (by decide) (by decide) | exact e49 _ (by decide)), G.WG.fr (by first | exact eo _ (by decide) (by decide) (by decide) (by decide) (by decide) | exact e49 _ (by decide)), G.WK.fr (by first | exact eo _ (by decide) (by decide) (by decide) (by decide) (by decide) | exact e49 _ (by decide)) (by first | exact eo _ (by decide) (by decide) (by decide) (by decide) (by decide) | exact e49 _ (by decide)) (by first | exact eo _ (by decide) (by decide) (by decide) (by decide) (by decide) | exact e49 _ (by decide)), G.WF1.fr (by first | exact eo _ (by decide) (by decide) (by decide) (by decide) (by decide) | exact e49 _ (by decide)), G.WBy.fr (by first | exact eo _ (by decide) (by decide) (by decide) (by decide) (by decide) | exact e49 _ (by decide)), G.WD.fr (by first | exact eo _ (by decide) (by decide) (by decide) (by decide) (by decide) | exact e49 _ (by decide)) (by first | exact eo _ (by decide) (by decide) (by decide) (by decide) (by decide) | exact e49 _ (by decide)) (by first | exact eo _ (by decide) (by decide) (by decide) (by decide) (by decide) | exact e49 _ (by decide)) (by first | exact eo _ (by decide) (by decide) (by decide) (by decide) (by decide) | exact e49 _ (by decide)) (by first | exact eo _ (by decide) (by decide) (by decide) (by decide) (by decide) | exact e49 _ (by decide)) (by first | exact eo _ (by decide) (by decide) (by decide) (by decide) (by decide) | exact e49 _ (by decide)) (by first | exact eo _ (by decide) (by decide) (by decide) (by decide) (by decide) | exact e49 _ (by decide)), G.WWo.fr (by first | exact eo _ (by decide) (by decide) (by decide) (by decide) (by decide) | exact e49 _ (by decide)) (by first | exact eo _ (by decide) (by decide) (by decide) (by decide) (by decide) | exact e49 _ (by decide)) (by first | exact eo _ (by decide) (by decide) (by decide) (by decide) (by decide) | exact e49 _ (by decide)) (by first | exact eo _ (by decide) (by decide) (by decide) (by decide) (by decide) | exact e49 _ (by decide)) (by first | exact eo _ (by decide) (by decide) (by decide) (by decide) (by decide) | exact e49 _ (by decide)) (by first | exact eo _ (by decide) (by decide) (by decide) (by decide) (by decide) | exact e49 _ (by decide)), G.WZr.fr (by first | exact eo _ (by decide) (by decide) (by decide) (by decide) (by decide) | exact e49 _ (by decide)) (by first | exact eo _ (by decide) (by decide) (by decide) (by decide) (by decide) | exact e49 _ (by decide)) (by first | exact eo _ (by decide) (by decide) (by decide) (by decide) (by decide) | exact e49 _ (by decide)) (by first | exact eo _ (by decide) (by decide) (by decide) (by decide) (by decide) | exact e49 _ (by decide))⟩
  · rw [if_neg z]; exact G
theorem rnsR_I (L : List Int32) : ∀ (h : AH) {a : Nat}, a ≠ 102 → a ≠ 49 → hI (rnsR h L) a = hI h a := by
  induction L with
  | nil => intro h a _ _; rfl
  | cons v L ih =>
    intro h a h1 h2
    rw [← rnsR_cons, ih _ h1 h2]
    unfold rnR
    rw [q_ne h2, q_ne h1]
theorem rnsR_49 (L : List Int32) : ∀ (h : AH) {k : Nat}, k ≠ 84 → hI (rnsR h L) 49 k = hI h 49 k := by
  induction L with
  | nil => intro h k _; rfl
  | cons v L ih =>
    intro h k hk
    rw [← rnsR_cons, ih _ hk]
    unfold rnR
    rw [q_atne hk, q_ne (by decide)]
theorem kp_act (G : WF w P) (b a x : Int32) : WF (s_act w b a x).2 P := by
  unfold s_act
  split
  · refine G.fr (fun k hk => ?_) (fun c hc => ?_)
    · have k84 : k ≠ 84 := by rintro rfl; revert hk; decide
      rw [rnsR_49 _ _ k84, q_atne k84]
    · have c1 : c ≠ 102 := by rintro rfl; revert hc; decide
      have c2 : c ≠ 49 := by rintro rfl; revert hc; decide
      rw [rnsR_I _ _ c1 c2, q_ne c2]
  · refine G.fr (fun k hk => ?_) (fun c hc => ?_)
    · have k84 : k ≠ 84 := by rintro rfl; revert hk; decide
      exact q_atne k84
    · have c2 : c ≠ 49 := by rintro rfl; revert hc; decide
      exact q_ne c2
end
